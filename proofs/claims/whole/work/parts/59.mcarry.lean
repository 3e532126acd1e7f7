/-! THE MODEL READS AN ORDER, AND CARRIES IT OUT -/
section
variable {L : Nat} {xs : Nat → Int32} {h h2 h3 : AH} {len q : Nat} {t : Rw} {r : Rw} {H P G n : Nat}
theorem rs_semi {d k : Int32} {q2 : Nat} (f : FrP h h2) (o : PM h2 t len q2) (hq : q2 + 1 < 200) (e1 : bt t len q2 = nI 59 → ordE t len q = none ∧ ordN t len q = q2 + 1) (e2 : ¬ bt t len q2 = nI 59 → ordE t len q = some q2) (ed : ordE t len q = none → d = ordT t len q) (en : ordE t len q = none → ¬ bt t len q = nI 99 → hI h2 126 151 = ordD t len q) : Ev (ev L xs mdX7_readRest 72 [.ref 151, .int k, .int d] [] h2) (RsQ h t len q) := by
  refine Ev_mono (rest_semi o hq) ?_
  rintro z ⟨h1, rfl, f1, n1, y1, z1⟩
  by_cases c : bt t len q2 = nI 59
  · obtain ⟨a1, a2⟩ := e1 c
    refine ⟨h1, d, rfl, f.tr f1, fun _ => ⟨by rw [a2]; exact y1 c, ed a1, fun hn => by rw [n1]; exact en a1 hn⟩, fun e he => ?_⟩
    rw [a1] at he
    cases he
  · have a1 := e2 c
    refine ⟨h1, d, rfl, f.tr f1, fun z => ?_, fun e he => ?_⟩
    · rw [a1] at z
      cases z
    · rw [a1] at he
      cases he
      exact ⟨z1 c, by omega⟩
theorem rs_end {d k : Int32} {e : Nat} (f : FrP h h2) (y : LayF h2) (ft : hI h2 125 151 = nI e) (he : e < 500) (eE : ordE t len q = some e) : Ev (ev L xs mdX7_readRest 72 [.ref 151, .int k, .int d] [] h2) (RsQ h t len q) := by
  rw [rest_end y ft he, Ev_some]
  refine ⟨h2, d, rfl, f, fun z => ?_, fun e2 h2 => ?_⟩
  · rw [eE] at z
    cases z
  · rw [eE] at h2
    cases h2
    exact ⟨ft, he⟩
theorem d_rest (o : PM h t len (q + 1)) (hq : q + 7 < 200) (kk : bt t len q = nI 100 ∨ bt t len q = nI 115 ∨ bt t len q = nI 99) : Ev (ev L xs mdX7_readRest 0 [.ref 151, .int (bt t len q), .null] [] h) (RsQ h t len q) := by
  have hk := Y_k151 o.y
  have w4 : (124 : Nat) = 124 ∨ 124 = 125 ∨ 124 = 126 := by omega
  have w5 : (125 : Nat) = 124 ∨ 125 = 125 ∨ 125 = 126 := by omega
  rcases kk with cd | cs | cc
  · have n1 : (nI 100 = nI 115) = False := by decide
    have n2 : (nI 100 = nI 99) = False := by decide
    rw [cd]
    simp (disch := first | with_reducible assumption | exact cat_int | exact cat_ref | exact cat_null | exact cat_ra | exact Nat.le_of_ble_eq_true rfl | (simp (disch := omega) only [hK_sI, hR_sI, hN_sI, hA_sI, hQ_sI, hL_sI, hn_sI, hK_sR, hI_sR, hN_sR, hA_sR, hQ_sR, hL_sR, hn_sR, hK_sA, hI_sA, hR_sA, hN_sA, hQ_sA, hL_sA, hn_sA, hK_sQ, hI_sQ, hR_sQ, hN_sQ, hA_sQ, hL_sQ, hn_sQ, hK_sL, hI_sL, hR_sL, hN_sL, hA_sL, hQ_sL, hn_sL, hK_cpA, hI_cpA, hR_cpA, hN_cpA, hQ_cpA, hL_cpA, hn_cpA, hK_bump, hI_bump, hR_bump, hN_bump, hA_bump, hQ_bump, hL_bump, hn_bump, hI_sI, hR_sR, hA_sA, hQ_sQ, hL_sL, hA_cpA, isS, cat_int, cat_ref, cat_null, cat_ra, wds_nil, wds_int, wds_ref, wds_long, wds_ra, nz5, nz7, nz2, idxN, inAN, if_true, if_false, b00, b11, b01, eq_self, true_or, or_true, false_or, or_false, true_and, and_true, false_and, and_false, not_true, not_false_eq_true, hk, o.ft, m1lt, n1, n2]; done) | omega) only [iX7_readRest_0, iX7_readRest_1, iX7_readRest_2, iX7_readRest_3, iX7_readRest_6, iX7_readRest_9, iX7_readRest_10, iX7_readRest_12, iX7_readRest_15, iX7_readRest_16, iX7_readRest_18, iX7_readRest_21, iX7_readRest_22, iX7_readRest_23, iX7_readRest_26, iX7_readRest_29, iX7_readRest_30, iX7_readRest_32, iX7_readRest_35, iX7_readRest_36, iX7_readRest_39, iX7_readRest_42, iX7_readRest_43, iX7_readRest_45, iX7_readRest_48, iX7_readRest_49, iX7_readRest_51, iX7_readRest_54, iX7_readRest_55, iX7_readRest_56, iX7_readRest_59, iX7_readRest_62, iX7_readRest_63, iX7_readRest_65, iX7_readRest_68, iX7_readRest_69, ↓reduceIte, ofN, reduceCtorEq, Bool.false_eq_true, Nat.reduceAdd, Nat.reduceMul, Nat.reduceEqDiff, Nat.reduceLeDiff, Nat.reduceLT, le_nlt, ite_not, Nat.lt_irrefl, Decidable.not_not, kn1, kn0, knite, isS, getS, cat_int, cat_ref, cat_null, cat_ra, wds_nil, wds_int, wds_ref, wds_long, wds_ra, b0, b01, b00, b11, b10, if_true, if_false, ite_self, not_true, not_false_eq_true, true_or, or_true, false_or, or_false, true_and, and_true, false_and, and_false, eq_self, idxN, inAN, nI_add, nI_mul, nI_sub, nz5, nz7, nz2, nI_ltN, Nat.add_zero, Nat.zero_add, hK_sI, hR_sI, hN_sI, hA_sI, hQ_sI, hL_sI, hn_sI, hK_sR, hI_sR, hN_sR, hA_sR, hQ_sR, hL_sR, hn_sR, hK_sA, hI_sA, hR_sA, hN_sA, hQ_sA, hL_sA, hn_sA, hK_sQ, hI_sQ, hR_sQ, hN_sQ, hA_sQ, hL_sQ, hn_sQ, hK_sL, hI_sL, hR_sL, hN_sL, hA_sL, hQ_sL, hn_sL, hK_cpA, hI_cpA, hR_cpA, hN_cpA, hQ_cpA, hL_cpA, hn_cpA, hK_bump, hI_bump, hR_bump, hN_bump, hA_bump, hQ_bump, hL_bump, hn_bump, hI_sI, hR_sR, hA_sA, hQ_sQ, hL_sL, hA_cpA, hk, o.ft, m1lt, n1, n2]
    refine Ev_call (d_days7 o (by omega)) ?_
    rintro _ ⟨h1, rfl, f1, y1, z1⟩
    have rn := rdN_le (t := t) (len := len) (q := q + 1)
    rw [kn0]
    cases hE : rdE t len (q + 1) with
    | none =>
      obtain ⟨o1, v1⟩ := y1 hE
      refine rs_semi f1 o1 (by omega) (fun c => ⟨?_, if_pos cd⟩) (fun c => ?_) (fun _ => (if_pos cd).symm) (fun _ _ => ?_)
      · unfold ordE
        rw [if_pos cd, hE]
        exact if_pos c
      · unfold ordE
        rw [if_pos cd, hE]
        exact if_neg c
      · rw [v1]
        exact (if_pos cd).symm
    | some e =>
      obtain ⟨v1, v2⟩ := z1 e hE
      exact rs_end f1 (f1.1.y o.y) v1 v2 (by unfold ordE; rw [if_pos cd, hE])
  · have cd : ¬ bt t len q = nI 100 := by rw [cs]; decide
    have n2 : (nI 115 = nI 99) = False := by decide
    have eT : ordT t len q = bt t len (q + 1) - nI 48 := if_neg cd
    have z1 : ¬ q + 1 < 0 := by omega
    have z2 : ¬ q + 2 < 0 := by omega
    rw [cs]
    cases cg : dig (nI 9) (bt t len (q + 1)) with
    | false =>
      have rn := d_rd_n (L := L) (xs := xs) (k := 9) o cg
      have eE : ordE t len q = some (q + 1) := by unfold ordE; rw [if_neg cd, if_pos cs, if_neg (by rw [cg]; simp)]
      simp (disch := first | with_reducible assumption | exact cat_int | exact cat_ref | exact cat_null | exact cat_ra | exact Nat.le_of_ble_eq_true rfl | (simp (disch := omega) only [hK_sI, hR_sI, hN_sI, hA_sI, hQ_sI, hL_sI, hn_sI, hK_sR, hI_sR, hN_sR, hA_sR, hQ_sR, hL_sR, hn_sR, hK_sA, hI_sA, hR_sA, hN_sA, hQ_sA, hL_sA, hn_sA, hK_sQ, hI_sQ, hR_sQ, hN_sQ, hA_sQ, hL_sQ, hn_sQ, hK_sL, hI_sL, hR_sL, hN_sL, hA_sL, hQ_sL, hn_sL, hK_cpA, hI_cpA, hR_cpA, hN_cpA, hQ_cpA, hL_cpA, hn_cpA, hK_bump, hI_bump, hR_bump, hN_bump, hA_bump, hQ_bump, hL_bump, hn_bump, hI_sI, hR_sR, hA_sA, hQ_sQ, hL_sL, hA_cpA, isS, cat_int, cat_ref, cat_null, cat_ra, wds_nil, wds_int, wds_ref, wds_long, wds_ra, nz5, nz7, nz2, idxN, inAN, if_true, if_false, b00, b11, b01, eq_self, true_or, or_true, false_or, or_false, true_and, and_true, false_and, and_false, not_true, not_false_eq_true, hk, o.ft, m1lt, n2, rn, z1]; done) | omega) only [iX7_readRest_0, iX7_readRest_1, iX7_readRest_2, iX7_readRest_3, iX7_readRest_6, iX7_readRest_9, iX7_readRest_10, iX7_readRest_12, iX7_readRest_15, iX7_readRest_16, iX7_readRest_18, iX7_readRest_21, iX7_readRest_22, iX7_readRest_23, iX7_readRest_26, iX7_readRest_29, iX7_readRest_30, iX7_readRest_32, iX7_readRest_35, iX7_readRest_36, iX7_readRest_39, iX7_readRest_42, iX7_readRest_43, iX7_readRest_45, iX7_readRest_48, iX7_readRest_49, iX7_readRest_51, iX7_readRest_54, iX7_readRest_55, iX7_readRest_56, iX7_readRest_59, iX7_readRest_62, ↓reduceIte, ofN, reduceCtorEq, Bool.false_eq_true, Nat.reduceAdd, Nat.reduceMul, Nat.reduceEqDiff, Nat.reduceLeDiff, Nat.reduceLT, le_nlt, ite_not, Nat.lt_irrefl, Decidable.not_not, kn1, kn0, knite, isS, getS, cat_int, cat_ref, cat_null, cat_ra, wds_nil, wds_int, wds_ref, wds_long, wds_ra, b0, b01, b00, b11, b10, if_true, if_false, ite_self, not_true, not_false_eq_true, true_or, or_true, false_or, or_false, true_and, and_true, false_and, and_false, eq_self, idxN, inAN, nI_add, nI_mul, nI_sub, nz5, nz7, nz2, nI_ltN, Nat.add_zero, Nat.zero_add, hK_sI, hR_sI, hN_sI, hA_sI, hQ_sI, hL_sI, hn_sI, hK_sR, hI_sR, hN_sR, hA_sR, hQ_sR, hL_sR, hn_sR, hK_sA, hI_sA, hR_sA, hN_sA, hQ_sA, hL_sA, hn_sA, hK_sQ, hI_sQ, hR_sQ, hN_sQ, hA_sQ, hL_sQ, hn_sQ, hK_sL, hI_sL, hR_sL, hN_sL, hA_sL, hQ_sL, hn_sL, hK_cpA, hI_cpA, hR_cpA, hN_cpA, hQ_cpA, hL_cpA, hn_cpA, hK_bump, hI_bump, hR_bump, hN_bump, hA_bump, hQ_bump, hL_bump, hn_bump, hI_sI, hR_sR, hA_sA, hQ_sQ, hL_sL, hA_cpA, hk, o.ft, m1lt, n2, rn, z1]
      refine rs_end ((FrP.rf.w w5).w w4) (LayF_to o.y rfl rfl rfl) ?_ ?_ eE
      · simp [hI_sI]
      · omega
    | true =>
      have ry := d_rd_y (L := L) (xs := xs) (k := 9) o cg
      have o1 : PM (sI h 124 151 (nI (q + 2))) t len (q + 2) := o.adv (by omega)
      by_cases ck : bt t len (q + 2) = nI 44
      · have o2 : PM (sI (sI h 124 151 (nI (q + 2))) 124 151 (nI (q + 3))) t len (q + 3) := o1.adv (by omega)
        have ey := d_ex_y (L := L) (xs := xs) o1 ck
        simp (disch := first | with_reducible assumption | exact cat_int | exact cat_ref | exact cat_null | exact cat_ra | exact Nat.le_of_ble_eq_true rfl | (simp (disch := omega) only [hK_sI, hR_sI, hN_sI, hA_sI, hQ_sI, hL_sI, hn_sI, hK_sR, hI_sR, hN_sR, hA_sR, hQ_sR, hL_sR, hn_sR, hK_sA, hI_sA, hR_sA, hN_sA, hQ_sA, hL_sA, hn_sA, hK_sQ, hI_sQ, hR_sQ, hN_sQ, hA_sQ, hL_sQ, hn_sQ, hK_sL, hI_sL, hR_sL, hN_sL, hA_sL, hQ_sL, hn_sL, hK_cpA, hI_cpA, hR_cpA, hN_cpA, hQ_cpA, hL_cpA, hn_cpA, hK_bump, hI_bump, hR_bump, hN_bump, hA_bump, hQ_bump, hL_bump, hn_bump, hI_sI, hR_sR, hA_sA, hQ_sQ, hL_sL, hA_cpA, isS, cat_int, cat_ref, cat_null, cat_ra, wds_nil, wds_int, wds_ref, wds_long, wds_ra, nz5, nz7, nz2, idxN, inAN, if_true, if_false, b00, b11, b01, eq_self, true_or, or_true, false_or, or_false, true_and, and_true, false_and, and_false, not_true, not_false_eq_true, hk, o.ft, m1lt, n2, ry, ey]; done) | omega) only [iX7_readRest_0, iX7_readRest_1, iX7_readRest_2, iX7_readRest_3, iX7_readRest_6, iX7_readRest_9, iX7_readRest_10, iX7_readRest_12, iX7_readRest_15, iX7_readRest_16, iX7_readRest_18, iX7_readRest_21, iX7_readRest_22, iX7_readRest_23, iX7_readRest_26, iX7_readRest_29, iX7_readRest_30, iX7_readRest_32, iX7_readRest_35, iX7_readRest_36, iX7_readRest_39, iX7_readRest_42, iX7_readRest_43, iX7_readRest_45, iX7_readRest_48, iX7_readRest_49, iX7_readRest_51, iX7_readRest_54, iX7_readRest_55, iX7_readRest_56, iX7_readRest_59, iX7_readRest_62, iX7_readRest_63, iX7_readRest_65, iX7_readRest_68, iX7_readRest_69, ↓reduceIte, ofN, reduceCtorEq, Bool.false_eq_true, Nat.reduceAdd, Nat.reduceMul, Nat.reduceEqDiff, Nat.reduceLeDiff, Nat.reduceLT, le_nlt, ite_not, Nat.lt_irrefl, Decidable.not_not, kn1, kn0, knite, isS, getS, cat_int, cat_ref, cat_null, cat_ra, wds_nil, wds_int, wds_ref, wds_long, wds_ra, b0, b01, b00, b11, b10, if_true, if_false, ite_self, not_true, not_false_eq_true, true_or, or_true, false_or, or_false, true_and, and_true, false_and, and_false, eq_self, idxN, inAN, nI_add, nI_mul, nI_sub, nz5, nz7, nz2, nI_ltN, Nat.add_zero, Nat.zero_add, hK_sI, hR_sI, hN_sI, hA_sI, hQ_sI, hL_sI, hn_sI, hK_sR, hI_sR, hN_sR, hA_sR, hQ_sR, hL_sR, hn_sR, hK_sA, hI_sA, hR_sA, hN_sA, hQ_sA, hL_sA, hn_sA, hK_sQ, hI_sQ, hR_sQ, hN_sQ, hA_sQ, hL_sQ, hn_sQ, hK_sL, hI_sL, hR_sL, hN_sL, hA_sL, hQ_sL, hn_sL, hK_cpA, hI_cpA, hR_cpA, hN_cpA, hQ_cpA, hL_cpA, hn_cpA, hK_bump, hI_bump, hR_bump, hN_bump, hA_bump, hQ_bump, hL_bump, hn_bump, hI_sI, hR_sR, hA_sA, hQ_sQ, hL_sL, hA_cpA, hk, o.ft, m1lt, n2, ry, ey]
        refine Ev_call (d_days7 o2 (by omega)) ?_
        rintro _ ⟨h1, rfl, f1, y1, zz1⟩
        have rn := rdN_le (t := t) (len := len) (q := q + 3)
        have fa : FrP h h1 := ((FrP.rf.w w4).w w4).tr f1
        rw [kn0]
        cases hE : rdE t len (q + 3) with
        | none =>
          obtain ⟨o3, v1⟩ := y1 hE
          refine rs_semi fa o3 (by omega) (fun c => ⟨?_, ?_⟩) (fun c => ?_) (fun _ => eT.symm) (fun _ _ => ?_)
          · unfold ordE
            rw [if_neg cd, if_pos cs, if_pos cg, if_pos ck, hE]
            exact if_pos c
          · unfold ordN
            rw [if_neg cd, if_pos cs]
          · unfold ordE
            rw [if_neg cd, if_pos cs, if_pos cg, if_pos ck, hE]
            exact if_neg c
          · rw [v1]
            unfold ordD
            rw [if_neg cd, if_pos cs]
        | some e =>
          obtain ⟨v1, v2⟩ := zz1 e hE
          exact rs_end fa (fa.1.y o.y) v1 v2 (by unfold ordE; rw [if_neg cd, if_pos cs, if_pos cg, if_pos ck, hE])
      · have en := d_ex_n (L := L) (xs := xs) o1 ck
        have eE : ordE t len q = some (q + 2) := by unfold ordE; rw [if_neg cd, if_pos cs, if_pos cg, if_neg ck]
        simp (disch := first | with_reducible assumption | exact cat_int | exact cat_ref | exact cat_null | exact cat_ra | exact Nat.le_of_ble_eq_true rfl | (simp (disch := omega) only [hK_sI, hR_sI, hN_sI, hA_sI, hQ_sI, hL_sI, hn_sI, hK_sR, hI_sR, hN_sR, hA_sR, hQ_sR, hL_sR, hn_sR, hK_sA, hI_sA, hR_sA, hN_sA, hQ_sA, hL_sA, hn_sA, hK_sQ, hI_sQ, hR_sQ, hN_sQ, hA_sQ, hL_sQ, hn_sQ, hK_sL, hI_sL, hR_sL, hN_sL, hA_sL, hQ_sL, hn_sL, hK_cpA, hI_cpA, hR_cpA, hN_cpA, hQ_cpA, hL_cpA, hn_cpA, hK_bump, hI_bump, hR_bump, hN_bump, hA_bump, hQ_bump, hL_bump, hn_bump, hI_sI, hR_sR, hA_sA, hQ_sQ, hL_sL, hA_cpA, isS, cat_int, cat_ref, cat_null, cat_ra, wds_nil, wds_int, wds_ref, wds_long, wds_ra, nz5, nz7, nz2, idxN, inAN, if_true, if_false, b00, b11, b01, eq_self, true_or, or_true, false_or, or_false, true_and, and_true, false_and, and_false, not_true, not_false_eq_true, hk, o.ft, m1lt, n2, ry, en, z2]; done) | omega) only [iX7_readRest_0, iX7_readRest_1, iX7_readRest_2, iX7_readRest_3, iX7_readRest_6, iX7_readRest_9, iX7_readRest_10, iX7_readRest_12, iX7_readRest_15, iX7_readRest_16, iX7_readRest_18, iX7_readRest_21, iX7_readRest_22, iX7_readRest_23, iX7_readRest_26, iX7_readRest_29, iX7_readRest_30, iX7_readRest_32, iX7_readRest_35, iX7_readRest_36, iX7_readRest_39, iX7_readRest_42, iX7_readRest_43, iX7_readRest_45, iX7_readRest_48, iX7_readRest_49, iX7_readRest_51, iX7_readRest_54, iX7_readRest_55, iX7_readRest_56, iX7_readRest_59, iX7_readRest_62, ↓reduceIte, ofN, reduceCtorEq, Bool.false_eq_true, Nat.reduceAdd, Nat.reduceMul, Nat.reduceEqDiff, Nat.reduceLeDiff, Nat.reduceLT, le_nlt, ite_not, Nat.lt_irrefl, Decidable.not_not, kn1, kn0, knite, isS, getS, cat_int, cat_ref, cat_null, cat_ra, wds_nil, wds_int, wds_ref, wds_long, wds_ra, b0, b01, b00, b11, b10, if_true, if_false, ite_self, not_true, not_false_eq_true, true_or, or_true, false_or, or_false, true_and, and_true, false_and, and_false, eq_self, idxN, inAN, nI_add, nI_mul, nI_sub, nz5, nz7, nz2, nI_ltN, Nat.add_zero, Nat.zero_add, hK_sI, hR_sI, hN_sI, hA_sI, hQ_sI, hL_sI, hn_sI, hK_sR, hI_sR, hN_sR, hA_sR, hQ_sR, hL_sR, hn_sR, hK_sA, hI_sA, hR_sA, hN_sA, hQ_sA, hL_sA, hn_sA, hK_sQ, hI_sQ, hR_sQ, hN_sQ, hA_sQ, hL_sQ, hn_sQ, hK_sL, hI_sL, hR_sL, hN_sL, hA_sL, hQ_sL, hn_sL, hK_cpA, hI_cpA, hR_cpA, hN_cpA, hQ_cpA, hL_cpA, hn_cpA, hK_bump, hI_bump, hR_bump, hN_bump, hA_bump, hQ_bump, hL_bump, hn_bump, hI_sI, hR_sR, hA_sA, hQ_sQ, hL_sL, hA_cpA, hk, o.ft, m1lt, n2, ry, en, z2]
        refine rs_end (((FrP.rf.w w4).w w5).w w4) (LayF_to o.y rfl rfl rfl) ?_ ?_ eE
        · simp [hI_sI]
        · omega
  · have cd : ¬ bt t len q = nI 100 := by rw [cc]; decide
    have cs : ¬ bt t len q = nI 115 := by rw [cc]; decide
    have n2 : (nI 99 = nI 115) = False := by decide
    have eT : ordT t len q = bt t len (q + 1) - nI 48 := if_neg cd
    have z1 : ¬ q + 1 < 0 := by omega
    rw [cc]
    cases cg : dig (nI 7) (bt t len (q + 1)) with
    | false =>
      have rn := d_rd_n (L := L) (xs := xs) (k := 7) o cg
      have eE : ordE t len q = some (q + 1) := by unfold ordE; rw [if_neg cd, if_neg cs, if_pos cc, if_neg (by rw [cg]; simp)]
      simp (disch := first | with_reducible assumption | exact cat_int | exact cat_ref | exact cat_null | exact cat_ra | exact Nat.le_of_ble_eq_true rfl | (simp (disch := omega) only [hK_sI, hR_sI, hN_sI, hA_sI, hQ_sI, hL_sI, hn_sI, hK_sR, hI_sR, hN_sR, hA_sR, hQ_sR, hL_sR, hn_sR, hK_sA, hI_sA, hR_sA, hN_sA, hQ_sA, hL_sA, hn_sA, hK_sQ, hI_sQ, hR_sQ, hN_sQ, hA_sQ, hL_sQ, hn_sQ, hK_sL, hI_sL, hR_sL, hN_sL, hA_sL, hQ_sL, hn_sL, hK_cpA, hI_cpA, hR_cpA, hN_cpA, hQ_cpA, hL_cpA, hn_cpA, hK_bump, hI_bump, hR_bump, hN_bump, hA_bump, hQ_bump, hL_bump, hn_bump, hI_sI, hR_sR, hA_sA, hQ_sQ, hL_sL, hA_cpA, isS, cat_int, cat_ref, cat_null, cat_ra, wds_nil, wds_int, wds_ref, wds_long, wds_ra, nz5, nz7, nz2, idxN, inAN, if_true, if_false, b00, b11, b01, eq_self, true_or, or_true, false_or, or_false, true_and, and_true, false_and, and_false, not_true, not_false_eq_true, hk, o.ft, m1lt, n2, rn, z1]; done) | omega) only [iX7_readRest_0, iX7_readRest_1, iX7_readRest_2, iX7_readRest_3, iX7_readRest_6, iX7_readRest_9, iX7_readRest_10, iX7_readRest_12, iX7_readRest_15, iX7_readRest_16, iX7_readRest_18, iX7_readRest_21, iX7_readRest_22, iX7_readRest_23, iX7_readRest_26, iX7_readRest_29, iX7_readRest_30, iX7_readRest_32, iX7_readRest_35, iX7_readRest_36, iX7_readRest_39, iX7_readRest_42, iX7_readRest_43, iX7_readRest_45, iX7_readRest_48, iX7_readRest_49, iX7_readRest_51, iX7_readRest_54, iX7_readRest_55, iX7_readRest_56, iX7_readRest_59, iX7_readRest_62, ↓reduceIte, ofN, reduceCtorEq, Bool.false_eq_true, Nat.reduceAdd, Nat.reduceMul, Nat.reduceEqDiff, Nat.reduceLeDiff, Nat.reduceLT, le_nlt, ite_not, Nat.lt_irrefl, Decidable.not_not, kn1, kn0, knite, isS, getS, cat_int, cat_ref, cat_null, cat_ra, wds_nil, wds_int, wds_ref, wds_long, wds_ra, b0, b01, b00, b11, b10, if_true, if_false, ite_self, not_true, not_false_eq_true, true_or, or_true, false_or, or_false, true_and, and_true, false_and, and_false, eq_self, idxN, inAN, nI_add, nI_mul, nI_sub, nz5, nz7, nz2, nI_ltN, Nat.add_zero, Nat.zero_add, hK_sI, hR_sI, hN_sI, hA_sI, hQ_sI, hL_sI, hn_sI, hK_sR, hI_sR, hN_sR, hA_sR, hQ_sR, hL_sR, hn_sR, hK_sA, hI_sA, hR_sA, hN_sA, hQ_sA, hL_sA, hn_sA, hK_sQ, hI_sQ, hR_sQ, hN_sQ, hA_sQ, hL_sQ, hn_sQ, hK_sL, hI_sL, hR_sL, hN_sL, hA_sL, hQ_sL, hn_sL, hK_cpA, hI_cpA, hR_cpA, hN_cpA, hQ_cpA, hL_cpA, hn_cpA, hK_bump, hI_bump, hR_bump, hN_bump, hA_bump, hQ_bump, hL_bump, hn_bump, hI_sI, hR_sR, hA_sA, hQ_sQ, hL_sL, hA_cpA, hk, o.ft, m1lt, n2, rn, z1]
      refine rs_end ((FrP.rf.w w5).w w4) (LayF_to o.y rfl rfl rfl) ?_ ?_ eE
      · simp [hI_sI]
      · omega
    | true =>
      have ry := d_rd_y (L := L) (xs := xs) (k := 7) o cg
      have o1 : PM (sI h 124 151 (nI (q + 2))) t len (q + 2) := o.adv (by omega)
      simp (disch := first | with_reducible assumption | exact cat_int | exact cat_ref | exact cat_null | exact cat_ra | exact Nat.le_of_ble_eq_true rfl | (simp (disch := omega) only [hK_sI, hR_sI, hN_sI, hA_sI, hQ_sI, hL_sI, hn_sI, hK_sR, hI_sR, hN_sR, hA_sR, hQ_sR, hL_sR, hn_sR, hK_sA, hI_sA, hR_sA, hN_sA, hQ_sA, hL_sA, hn_sA, hK_sQ, hI_sQ, hR_sQ, hN_sQ, hA_sQ, hL_sQ, hn_sQ, hK_sL, hI_sL, hR_sL, hN_sL, hA_sL, hQ_sL, hn_sL, hK_cpA, hI_cpA, hR_cpA, hN_cpA, hQ_cpA, hL_cpA, hn_cpA, hK_bump, hI_bump, hR_bump, hN_bump, hA_bump, hQ_bump, hL_bump, hn_bump, hI_sI, hR_sR, hA_sA, hQ_sQ, hL_sL, hA_cpA, isS, cat_int, cat_ref, cat_null, cat_ra, wds_nil, wds_int, wds_ref, wds_long, wds_ra, nz5, nz7, nz2, idxN, inAN, if_true, if_false, b00, b11, b01, eq_self, true_or, or_true, false_or, or_false, true_and, and_true, false_and, and_false, not_true, not_false_eq_true, hk, o.ft, m1lt, n2, ry]; done) | omega) only [iX7_readRest_0, iX7_readRest_1, iX7_readRest_2, iX7_readRest_3, iX7_readRest_6, iX7_readRest_9, iX7_readRest_10, iX7_readRest_12, iX7_readRest_15, iX7_readRest_16, iX7_readRest_18, iX7_readRest_21, iX7_readRest_22, iX7_readRest_23, iX7_readRest_26, iX7_readRest_29, iX7_readRest_30, iX7_readRest_32, iX7_readRest_35, iX7_readRest_36, iX7_readRest_39, iX7_readRest_42, iX7_readRest_43, iX7_readRest_45, iX7_readRest_48, iX7_readRest_49, iX7_readRest_51, iX7_readRest_54, iX7_readRest_55, iX7_readRest_56, iX7_readRest_59, iX7_readRest_62, iX7_readRest_63, iX7_readRest_65, ↓reduceIte, ofN, reduceCtorEq, Bool.false_eq_true, Nat.reduceAdd, Nat.reduceMul, Nat.reduceEqDiff, Nat.reduceLeDiff, Nat.reduceLT, le_nlt, ite_not, Nat.lt_irrefl, Decidable.not_not, kn1, kn0, knite, isS, getS, cat_int, cat_ref, cat_null, cat_ra, wds_nil, wds_int, wds_ref, wds_long, wds_ra, b0, b01, b00, b11, b10, if_true, if_false, ite_self, not_true, not_false_eq_true, true_or, or_true, false_or, or_false, true_and, and_true, false_and, and_false, eq_self, idxN, inAN, nI_add, nI_mul, nI_sub, nz5, nz7, nz2, nI_ltN, Nat.add_zero, Nat.zero_add, hK_sI, hR_sI, hN_sI, hA_sI, hQ_sI, hL_sI, hn_sI, hK_sR, hI_sR, hN_sR, hA_sR, hQ_sR, hL_sR, hn_sR, hK_sA, hI_sA, hR_sA, hN_sA, hQ_sA, hL_sA, hn_sA, hK_sQ, hI_sQ, hR_sQ, hN_sQ, hA_sQ, hL_sQ, hn_sQ, hK_sL, hI_sL, hR_sL, hN_sL, hA_sL, hQ_sL, hn_sL, hK_cpA, hI_cpA, hR_cpA, hN_cpA, hQ_cpA, hL_cpA, hn_cpA, hK_bump, hI_bump, hR_bump, hN_bump, hA_bump, hQ_bump, hL_bump, hn_bump, hI_sI, hR_sR, hA_sA, hQ_sQ, hL_sL, hA_cpA, hk, o.ft, m1lt, n2, ry]
      refine rs_semi (FrP.rf.w w4) o1 (by omega) (fun c => ⟨?_, ?_⟩) (fun c => ?_) (fun _ => eT.symm) (fun _ hn => absurd cc hn)
      · unfold ordE
        rw [if_neg cd, if_neg cs, if_pos cc, if_pos cg]
        exact if_pos c
      · unfold ordN
        rw [if_neg cd, if_neg cs]
      · unfold ordE
        rw [if_neg cd, if_neg cs, if_pos cc, if_pos cg]
        exact if_neg c
/-- a whole order: its letter, then the rest -/
theorem d_order {m : MD} {pc pc' : Nat} {Ls st : List Value} {Q : Res → Prop} (o : PM h t len q) (hq : q + 7 < 200) (K : ∀ h1 z, FrP h h1 → Ev (ev L xs mdX7_readRest 0 [.ref 151, .int (bt t len q), .null] [] h1) (RsQ h1 t len q) → z = (Sum.inl (some (Value.int (bt t len q)), h1) : Res) → Ev (kn L xs m pc pc' Ls st (some z)) Q) : Ev (kn L xs m pc pc' Ls st (ev L xs mdX7_readOrder 0 [.ref 151, .null] [] h)) Q := by
  have hk := Y_k151 o.y
  have w4 : (124 : Nat) = 124 ∨ 124 = 125 ∨ 124 = 126 := by omega
  have w5 : (125 : Nat) = 124 ∨ 125 = 125 ∨ 125 = 126 := by omega
  have o1 : PM (sI h 124 151 (nI (q + 1))) t len (q + 1) := o.adv (by omega)
  have good : (bt t len q = nI 100 ∨ bt t len q = nI 115 ∨ bt t len q = nI 99) → ev L xs mdX7_readOrder 0 [.ref 151, .null] [] h = some (Sum.inl (some (Value.int (bt t len q)), sI h 124 151 (nI (q + 1)))) → Ev (kn L xs m pc pc' Ls st (ev L xs mdX7_readOrder 0 [.ref 151, .null] [] h)) Q := by
    intro kk e
    rw [e]
    exact K _ _ (FrP.rf.w w4) (d_rest o1 hq kk) rfl
  by_cases cd : bt t len q = nI 100
  · refine good (Or.inl cd) ?_
    simp (disch := first | with_reducible assumption | exact cat_int | exact cat_ref | exact cat_null | exact cat_ra | exact Nat.le_of_ble_eq_true rfl | (simp (disch := omega) only [hK_sI, hR_sI, hN_sI, hA_sI, hQ_sI, hL_sI, hn_sI, hK_sR, hI_sR, hN_sR, hA_sR, hQ_sR, hL_sR, hn_sR, hK_sA, hI_sA, hR_sA, hN_sA, hQ_sA, hL_sA, hn_sA, hK_sQ, hI_sQ, hR_sQ, hN_sQ, hA_sQ, hL_sQ, hn_sQ, hK_sL, hI_sL, hR_sL, hN_sL, hA_sL, hQ_sL, hn_sL, hK_cpA, hI_cpA, hR_cpA, hN_cpA, hQ_cpA, hL_cpA, hn_cpA, hK_bump, hI_bump, hR_bump, hN_bump, hA_bump, hQ_bump, hL_bump, hn_bump, hI_sI, hR_sR, hA_sA, hQ_sQ, hL_sL, hA_cpA, isS, cat_int, cat_ref, cat_null, cat_ra, wds_nil, wds_int, wds_ref, wds_long, wds_ra, nz5, nz7, nz2, idxN, inAN, if_true, if_false, b00, b11, b01, eq_self, true_or, or_true, false_or, or_false, true_and, and_true, false_and, and_false, not_true, not_false_eq_true, hk, d_here o, o.at, cd]; done) | omega) only [iX7_readOrder_0, iX7_readOrder_1, iX7_readOrder_4, iX7_readOrder_5, iX7_readOrder_6, iX7_readOrder_8, iX7_readOrder_11, iX7_readOrder_12, iX7_readOrder_14, iX7_readOrder_17, iX7_readOrder_18, iX7_readOrder_20, iX7_readOrder_23, iX7_readOrder_24, iX7_readOrder_25, iX7_readOrder_28, iX7_readOrder_31, iX7_readOrder_32, iX7_readOrder_32i, iX7_readOrder_33, iX7_readOrder_36, iX7_readOrder_37, iX7_readOrder_38, iX7_readOrder_41, iX7_readOrder_42, ↓reduceIte, ofN, reduceCtorEq, Bool.false_eq_true, Nat.reduceAdd, Nat.reduceMul, Nat.reduceEqDiff, Nat.reduceLeDiff, Nat.reduceLT, le_nlt, ite_not, Nat.lt_irrefl, Decidable.not_not, kn1, kn0, knite, isS, getS, cat_int, cat_ref, cat_null, cat_ra, wds_nil, wds_int, wds_ref, wds_long, wds_ra, b0, b01, b00, b11, b10, if_true, if_false, ite_self, not_true, not_false_eq_true, true_or, or_true, false_or, or_false, true_and, and_true, false_and, and_false, eq_self, idxN, inAN, nI_add, nI_mul, nI_sub, nz5, nz7, nz2, nI_ltN, Nat.add_zero, Nat.zero_add, hK_sI, hR_sI, hN_sI, hA_sI, hQ_sI, hL_sI, hn_sI, hK_sR, hI_sR, hN_sR, hA_sR, hQ_sR, hL_sR, hn_sR, hK_sA, hI_sA, hR_sA, hN_sA, hQ_sA, hL_sA, hn_sA, hK_sQ, hI_sQ, hR_sQ, hN_sQ, hA_sQ, hL_sQ, hn_sQ, hK_sL, hI_sL, hR_sL, hN_sL, hA_sL, hQ_sL, hn_sL, hK_cpA, hI_cpA, hR_cpA, hN_cpA, hQ_cpA, hL_cpA, hn_cpA, hK_bump, hI_bump, hR_bump, hN_bump, hA_bump, hQ_bump, hL_bump, hn_bump, hI_sI, hR_sR, hA_sA, hQ_sQ, hL_sL, hA_cpA, hk, d_here o, o.at, cd]
  · by_cases cs : bt t len q = nI 115
    · refine good (Or.inr (Or.inl cs)) ?_
      have n1 : (nI 115 = nI 100) = False := by decide
      simp (disch := first | with_reducible assumption | exact cat_int | exact cat_ref | exact cat_null | exact cat_ra | exact Nat.le_of_ble_eq_true rfl | (simp (disch := omega) only [hK_sI, hR_sI, hN_sI, hA_sI, hQ_sI, hL_sI, hn_sI, hK_sR, hI_sR, hN_sR, hA_sR, hQ_sR, hL_sR, hn_sR, hK_sA, hI_sA, hR_sA, hN_sA, hQ_sA, hL_sA, hn_sA, hK_sQ, hI_sQ, hR_sQ, hN_sQ, hA_sQ, hL_sQ, hn_sQ, hK_sL, hI_sL, hR_sL, hN_sL, hA_sL, hQ_sL, hn_sL, hK_cpA, hI_cpA, hR_cpA, hN_cpA, hQ_cpA, hL_cpA, hn_cpA, hK_bump, hI_bump, hR_bump, hN_bump, hA_bump, hQ_bump, hL_bump, hn_bump, hI_sI, hR_sR, hA_sA, hQ_sQ, hL_sL, hA_cpA, isS, cat_int, cat_ref, cat_null, cat_ra, wds_nil, wds_int, wds_ref, wds_long, wds_ra, nz5, nz7, nz2, idxN, inAN, if_true, if_false, b00, b11, b01, eq_self, true_or, or_true, false_or, or_false, true_and, and_true, false_and, and_false, not_true, not_false_eq_true, hk, d_here o, o.at, cs, n1]; done) | omega) only [iX7_readOrder_0, iX7_readOrder_1, iX7_readOrder_4, iX7_readOrder_5, iX7_readOrder_6, iX7_readOrder_8, iX7_readOrder_11, iX7_readOrder_12, iX7_readOrder_14, iX7_readOrder_17, iX7_readOrder_18, iX7_readOrder_20, iX7_readOrder_23, iX7_readOrder_24, iX7_readOrder_25, iX7_readOrder_28, iX7_readOrder_31, iX7_readOrder_32, iX7_readOrder_32i, iX7_readOrder_33, iX7_readOrder_36, iX7_readOrder_37, iX7_readOrder_38, iX7_readOrder_41, iX7_readOrder_42, ↓reduceIte, ofN, reduceCtorEq, Bool.false_eq_true, Nat.reduceAdd, Nat.reduceMul, Nat.reduceEqDiff, Nat.reduceLeDiff, Nat.reduceLT, le_nlt, ite_not, Nat.lt_irrefl, Decidable.not_not, kn1, kn0, knite, isS, getS, cat_int, cat_ref, cat_null, cat_ra, wds_nil, wds_int, wds_ref, wds_long, wds_ra, b0, b01, b00, b11, b10, if_true, if_false, ite_self, not_true, not_false_eq_true, true_or, or_true, false_or, or_false, true_and, and_true, false_and, and_false, eq_self, idxN, inAN, nI_add, nI_mul, nI_sub, nz5, nz7, nz2, nI_ltN, Nat.add_zero, Nat.zero_add, hK_sI, hR_sI, hN_sI, hA_sI, hQ_sI, hL_sI, hn_sI, hK_sR, hI_sR, hN_sR, hA_sR, hQ_sR, hL_sR, hn_sR, hK_sA, hI_sA, hR_sA, hN_sA, hQ_sA, hL_sA, hn_sA, hK_sQ, hI_sQ, hR_sQ, hN_sQ, hA_sQ, hL_sQ, hn_sQ, hK_sL, hI_sL, hR_sL, hN_sL, hA_sL, hQ_sL, hn_sL, hK_cpA, hI_cpA, hR_cpA, hN_cpA, hQ_cpA, hL_cpA, hn_cpA, hK_bump, hI_bump, hR_bump, hN_bump, hA_bump, hQ_bump, hL_bump, hn_bump, hI_sI, hR_sR, hA_sA, hQ_sQ, hL_sL, hA_cpA, hk, d_here o, o.at, cs, n1]
    · by_cases cc : bt t len q = nI 99
      · refine good (Or.inr (Or.inr cc)) ?_
        have n1 : (nI 99 = nI 100) = False := by decide
        have n2 : (nI 99 = nI 115) = False := by decide
        simp (disch := first | with_reducible assumption | exact cat_int | exact cat_ref | exact cat_null | exact cat_ra | exact Nat.le_of_ble_eq_true rfl | (simp (disch := omega) only [hK_sI, hR_sI, hN_sI, hA_sI, hQ_sI, hL_sI, hn_sI, hK_sR, hI_sR, hN_sR, hA_sR, hQ_sR, hL_sR, hn_sR, hK_sA, hI_sA, hR_sA, hN_sA, hQ_sA, hL_sA, hn_sA, hK_sQ, hI_sQ, hR_sQ, hN_sQ, hA_sQ, hL_sQ, hn_sQ, hK_sL, hI_sL, hR_sL, hN_sL, hA_sL, hQ_sL, hn_sL, hK_cpA, hI_cpA, hR_cpA, hN_cpA, hQ_cpA, hL_cpA, hn_cpA, hK_bump, hI_bump, hR_bump, hN_bump, hA_bump, hQ_bump, hL_bump, hn_bump, hI_sI, hR_sR, hA_sA, hQ_sQ, hL_sL, hA_cpA, isS, cat_int, cat_ref, cat_null, cat_ra, wds_nil, wds_int, wds_ref, wds_long, wds_ra, nz5, nz7, nz2, idxN, inAN, if_true, if_false, b00, b11, b01, eq_self, true_or, or_true, false_or, or_false, true_and, and_true, false_and, and_false, not_true, not_false_eq_true, hk, d_here o, o.at, cc, n1, n2]; done) | omega) only [iX7_readOrder_0, iX7_readOrder_1, iX7_readOrder_4, iX7_readOrder_5, iX7_readOrder_6, iX7_readOrder_8, iX7_readOrder_11, iX7_readOrder_12, iX7_readOrder_14, iX7_readOrder_17, iX7_readOrder_18, iX7_readOrder_20, iX7_readOrder_23, iX7_readOrder_24, iX7_readOrder_25, iX7_readOrder_28, iX7_readOrder_31, iX7_readOrder_32, iX7_readOrder_32i, iX7_readOrder_33, iX7_readOrder_36, iX7_readOrder_37, iX7_readOrder_38, iX7_readOrder_41, iX7_readOrder_42, ↓reduceIte, ofN, reduceCtorEq, Bool.false_eq_true, Nat.reduceAdd, Nat.reduceMul, Nat.reduceEqDiff, Nat.reduceLeDiff, Nat.reduceLT, le_nlt, ite_not, Nat.lt_irrefl, Decidable.not_not, kn1, kn0, knite, isS, getS, cat_int, cat_ref, cat_null, cat_ra, wds_nil, wds_int, wds_ref, wds_long, wds_ra, b0, b01, b00, b11, b10, if_true, if_false, ite_self, not_true, not_false_eq_true, true_or, or_true, false_or, or_false, true_and, and_true, false_and, and_false, eq_self, idxN, inAN, nI_add, nI_mul, nI_sub, nz5, nz7, nz2, nI_ltN, Nat.add_zero, Nat.zero_add, hK_sI, hR_sI, hN_sI, hA_sI, hQ_sI, hL_sI, hn_sI, hK_sR, hI_sR, hN_sR, hA_sR, hQ_sR, hL_sR, hn_sR, hK_sA, hI_sA, hR_sA, hN_sA, hQ_sA, hL_sA, hn_sA, hK_sQ, hI_sQ, hR_sQ, hN_sQ, hA_sQ, hL_sQ, hn_sQ, hK_sL, hI_sL, hR_sL, hN_sL, hA_sL, hQ_sL, hn_sL, hK_cpA, hI_cpA, hR_cpA, hN_cpA, hQ_cpA, hL_cpA, hn_cpA, hK_bump, hI_bump, hR_bump, hN_bump, hA_bump, hQ_bump, hL_bump, hn_bump, hI_sI, hR_sR, hA_sA, hQ_sQ, hL_sL, hA_cpA, hk, d_here o, o.at, cc, n1, n2]
      · have e : ev L xs mdX7_readOrder 0 [.ref 151, .null] [] h = some (Sum.inl (some (Value.int (bt t len q)), sI (sI h 125 151 (nI q)) 124 151 (nI (q + 1)))) := by
          simp (disch := first | with_reducible assumption | exact cat_int | exact cat_ref | exact cat_null | exact cat_ra | exact Nat.le_of_ble_eq_true rfl | (simp (disch := omega) only [hK_sI, hR_sI, hN_sI, hA_sI, hQ_sI, hL_sI, hn_sI, hK_sR, hI_sR, hN_sR, hA_sR, hQ_sR, hL_sR, hn_sR, hK_sA, hI_sA, hR_sA, hN_sA, hQ_sA, hL_sA, hn_sA, hK_sQ, hI_sQ, hR_sQ, hN_sQ, hA_sQ, hL_sQ, hn_sQ, hK_sL, hI_sL, hR_sL, hN_sL, hA_sL, hQ_sL, hn_sL, hK_cpA, hI_cpA, hR_cpA, hN_cpA, hQ_cpA, hL_cpA, hn_cpA, hK_bump, hI_bump, hR_bump, hN_bump, hA_bump, hQ_bump, hL_bump, hn_bump, hI_sI, hR_sR, hA_sA, hQ_sQ, hL_sL, hA_cpA, isS, cat_int, cat_ref, cat_null, cat_ra, wds_nil, wds_int, wds_ref, wds_long, wds_ra, nz5, nz7, nz2, idxN, inAN, if_true, if_false, b00, b11, b01, eq_self, true_or, or_true, false_or, or_false, true_and, and_true, false_and, and_false, not_true, not_false_eq_true, hk, d_here o, o.at, cd, cs, cc, d_fail o.y o.ft]; done) | omega) only [iX7_readOrder_0, iX7_readOrder_1, iX7_readOrder_4, iX7_readOrder_5, iX7_readOrder_6, iX7_readOrder_8, iX7_readOrder_11, iX7_readOrder_12, iX7_readOrder_14, iX7_readOrder_17, iX7_readOrder_18, iX7_readOrder_20, iX7_readOrder_23, iX7_readOrder_24, iX7_readOrder_25, iX7_readOrder_28, iX7_readOrder_31, iX7_readOrder_32, iX7_readOrder_32i, iX7_readOrder_33, iX7_readOrder_36, iX7_readOrder_37, iX7_readOrder_38, iX7_readOrder_41, iX7_readOrder_42, ↓reduceIte, ofN, reduceCtorEq, Bool.false_eq_true, Nat.reduceAdd, Nat.reduceMul, Nat.reduceEqDiff, Nat.reduceLeDiff, Nat.reduceLT, le_nlt, ite_not, Nat.lt_irrefl, Decidable.not_not, kn1, kn0, knite, isS, getS, cat_int, cat_ref, cat_null, cat_ra, wds_nil, wds_int, wds_ref, wds_long, wds_ra, b0, b01, b00, b11, b10, if_true, if_false, ite_self, not_true, not_false_eq_true, true_or, or_true, false_or, or_false, true_and, and_true, false_and, and_false, eq_self, idxN, inAN, nI_add, nI_mul, nI_sub, nz5, nz7, nz2, nI_ltN, Nat.add_zero, Nat.zero_add, hK_sI, hR_sI, hN_sI, hA_sI, hQ_sI, hL_sI, hn_sI, hK_sR, hI_sR, hN_sR, hA_sR, hQ_sR, hL_sR, hn_sR, hK_sA, hI_sA, hR_sA, hN_sA, hQ_sA, hL_sA, hn_sA, hK_sQ, hI_sQ, hR_sQ, hN_sQ, hA_sQ, hL_sQ, hn_sQ, hK_sL, hI_sL, hR_sL, hN_sL, hA_sL, hQ_sL, hn_sL, hK_cpA, hI_cpA, hR_cpA, hN_cpA, hQ_cpA, hL_cpA, hn_cpA, hK_bump, hI_bump, hR_bump, hN_bump, hA_bump, hQ_bump, hL_bump, hn_bump, hI_sI, hR_sR, hA_sA, hQ_sQ, hL_sL, hA_cpA, hk, d_here o, o.at, cd, cs, cc, d_fail o.y o.ft]
        have eE : ordE t len q = some q := by unfold ordE; rw [if_neg cd, if_neg cs, if_neg cc]
        rw [e]
        refine K _ _ ((FrP.rf.w w5).w w4) ?_ rfl
        have ft : hI (sI (sI h 125 151 (nI q)) 124 151 (nI (q + 1))) 125 151 = nI q := by simp [hI_sI]
        have q9 := o.q9
        rw [rest_F (e := q) (h := sI (sI h 125 151 (nI q)) 124 151 (nI (q + 1))) (LayF_to o.y rfl rfl rfl) ft (by omega), Ev_some]
        refine ⟨_, nI 0, rfl, FrP.rf, fun z => (by rw [eE] at z; cases z), fun e he => ?_⟩
        rw [eE] at he
        cases he
        exact ⟨ft, by omega⟩
/-! carrying out -/
def cBd (r : Rw) (P B : Nat) : Prop := ∀ p, p < P → ∃ c, c ≤ B ∧ r (24 + 9 * p) = nI c
theorem goSum_le : ∀ k, goSum r H P G n k ≤ 10 * k
  | 0 => Nat.le_refl _
  | k + 1 => by
    have := goSum_le k
    have := popc_le (s := (goL (goN r H P G n k) H P G (n + k)).2.2.2)
    show goSum r H P G n k + _ ≤ 10 * (k + 1)
    omega
theorem car_ok {s s' : SvT} (e : ordE t len q = none) (ex : exo t len q s = some s') (ok : rowOK s.1 s.2.1 s.2.2.1 s.2.2.2.1 s.2.2.2.2) (hn9 : s.2.2.2.2 < 20000) : rowOK s'.1 s'.2.1 s'.2.2.1 s'.2.2.2.1 s'.2.2.2.2 := by
  obtain ⟨r, H, P, G, n⟩ := s
  change n < 20000 at hn9
  change rowOK r H P G n at ok
  by_cases k1 : bt t len q = nI 100
  · obtain ⟨d, d1, d2, ed⟩ := ord_kd e k1
    rw [exo_d k1 ed d2] at ex
    split at ex
    · cases ex
      have := goN_mx ok (k := 2 * (n / 2 + d) - n) (by omega)
      rw [show n + (2 * (n / 2 + d) - n) = 2 * (n / 2 + d) by omega] at this
      exact this
    · cases ex
  · by_cases k2 : bt t len q = nI 115
    · obtain ⟨d, g, d1, d2, g1, ed, eg⟩ := ord_ks e k1 k2
      rw [exo_s k1 k2 ed eg g1] at ex
      split at ex
      · cases ex
        exact pu_ok ok (by omega) (fun q => by omega) (fun q => by omega)
      · cases ex
    · obtain ⟨k3, p, p1, ep⟩ := ord_kc e k1 k2
      rw [exo_c k1 k2 ep p1] at ex
      split at ex
      · rename_i cn
        cases ex
        exact compl_ok ok cn.1
      · cases ex
theorem d_carry {s : SvT} {B : Nat} (x : Mx h 152 s.1 s.2.1 s.2.2.1 s.2.2.2.1 s.2.2.2.2 none) (ok : okS s) (cb : cBd s.1 s.2.2.1 B) (hB : B < 1000000) (e : ordE t len q = none) (en : ¬ bt t len q = nI 99 → hI h 126 151 = ordD t len q) : Ev (ev L xs mdX7_carry 0 [.ref 151, .int (bt t len q), .int (ordT t len q), .null, .null] [] h) (fun z => ∃ h', z = .inl (some (.int (if (exo t len q s).isSome = true then nI 1 else nI 0)), h') ∧ Fr (inMb 152) h h' ∧ Mx h' 152 ((exo t len q s).getD s).1 ((exo t len q s).getD s).2.1 ((exo t len q s).getD s).2.2.1 ((exo t len q s).getD s).2.2.2.1 ((exo t len q s).getD s).2.2.2.2 none) := by
  have co := fun s' ex => car_ok (s' := s') e ex x.ok x.ok.2.2.2.1
  obtain ⟨r, H, P, G, n⟩ := s
  change Mx h 152 r H P G n none at x
  obtain ⟨hO, hs9⟩ := ok
  change ownOK r P G at hO
  change cBd r P B at cb
  have y := x.y
  have hk := Y_k151 y
  have n9 := x.n9
  have G10 := x.G10
  have P8 := x.P8
  have kb := x.k
  have lb := x.le
  have ab := x.a
  by_cases k1 : bt t len q = nI 100
  · obtain ⟨d, d1, d2, ed⟩ := ord_kd e k1
    have ex := exo_d (r := r) (H := H) (P := P) (G := G) (n := n) k1 ed d2
    have nn := en (by rw [k1]; decide)
    rw [ed] at nn
    have cp := d_canP (L := L) (xs := xs) (x := nI d) x
    rw [k1]
    by_cases cn : n / 2 + d - 1 ≤ 3000
    · rw [if_pos cn] at ex
      rw [if_pos (by rw [day_x n9 d1 d2]; exact cn)] at cp
      rw [ex, Option.isSome_some, Option.getD_some, if_pos rfl]
      simp (disch := first | with_reducible assumption | exact cat_int | exact cat_ref | exact cat_null | exact cat_ra | exact Nat.le_of_ble_eq_true rfl | (simp (disch := omega) only [hK_sI, hR_sI, hN_sI, hA_sI, hQ_sI, hL_sI, hn_sI, hK_sR, hI_sR, hN_sR, hA_sR, hQ_sR, hL_sR, hn_sR, hK_sA, hI_sA, hR_sA, hN_sA, hQ_sA, hL_sA, hn_sA, hK_sQ, hI_sQ, hR_sQ, hN_sQ, hA_sQ, hL_sQ, hn_sQ, hK_sL, hI_sL, hR_sL, hN_sL, hA_sL, hQ_sL, hn_sL, hK_cpA, hI_cpA, hR_cpA, hN_cpA, hQ_cpA, hL_cpA, hn_cpA, hK_bump, hI_bump, hR_bump, hN_bump, hA_bump, hQ_bump, hL_bump, hn_bump, hI_sI, hR_sR, hA_sA, hQ_sQ, hL_sL, hA_cpA, isS, cat_int, cat_ref, cat_null, cat_ra, wds_nil, wds_int, wds_ref, wds_long, wds_ra, nz5, nz7, nz2, idxN, inAN, if_true, if_false, b00, b11, b01, eq_self, true_or, or_true, false_or, or_false, true_and, and_true, false_and, and_false, not_true, not_false_eq_true, hk, nn, cp]; done) | omega) only [iX7_carry_0, iX7_carry_1, iX7_carry_3, iX7_carry_6, iX7_carry_7, iX7_carry_8, iX7_carry_11, iX7_carry_14, iX7_carry_15, iX7_carry_16, iX7_carry_19, iX7_carry_20, iX7_carry_21, iX7_carry_24, ↓reduceIte, ofN, reduceCtorEq, Bool.false_eq_true, Nat.reduceAdd, Nat.reduceMul, Nat.reduceEqDiff, Nat.reduceLeDiff, Nat.reduceLT, le_nlt, ite_not, Nat.lt_irrefl, Decidable.not_not, kn1, kn0, knite, isS, getS, cat_int, cat_ref, cat_null, cat_ra, wds_nil, wds_int, wds_ref, wds_long, wds_ra, b0, b01, b00, b11, b10, if_true, if_false, ite_self, not_true, not_false_eq_true, true_or, or_true, false_or, or_false, true_and, and_true, false_and, and_false, eq_self, idxN, inAN, nI_add, nI_mul, nI_sub, nz5, nz7, nz2, nI_ltN, Nat.add_zero, Nat.zero_add, hK_sI, hR_sI, hN_sI, hA_sI, hQ_sI, hL_sI, hn_sI, hK_sR, hI_sR, hN_sR, hA_sR, hQ_sR, hL_sR, hn_sR, hK_sA, hI_sA, hR_sA, hN_sA, hQ_sA, hL_sA, hn_sA, hK_sQ, hI_sQ, hR_sQ, hN_sQ, hA_sQ, hL_sQ, hn_sQ, hK_sL, hI_sL, hR_sL, hN_sL, hA_sL, hQ_sL, hn_sL, hK_cpA, hI_cpA, hR_cpA, hN_cpA, hQ_cpA, hL_cpA, hn_cpA, hK_bump, hI_bump, hR_bump, hN_bump, hA_bump, hQ_bump, hL_bump, hn_bump, hI_sI, hR_sR, hA_sA, hQ_sQ, hL_sL, hA_cpA, hk, nn, cp]
      refine Ev_call (d_pass x hO (by omega) d1) ?_
      rintro _ ⟨h1, rfl, f1, x1⟩
      have gl := goSum_le (r := r) (H := H) (P := P) (G := G) (n := n) (2 * (n / 2 + d) - n)
      have nl : ¬ goSum r H P G n (2 * (n / 2 + d) - n) < 0 := by omega
      simp (disch := first | with_reducible assumption | exact cat_int | exact cat_ref | exact cat_null | exact cat_ra | exact Nat.le_of_ble_eq_true rfl | (simp (disch := omega) only [hK_sI, hR_sI, hN_sI, hA_sI, hQ_sI, hL_sI, hn_sI, hK_sR, hI_sR, hN_sR, hA_sR, hQ_sR, hL_sR, hn_sR, hK_sA, hI_sA, hR_sA, hN_sA, hQ_sA, hL_sA, hn_sA, hK_sQ, hI_sQ, hR_sQ, hN_sQ, hA_sQ, hL_sQ, hn_sQ, hK_sL, hI_sL, hR_sL, hN_sL, hA_sL, hQ_sL, hn_sL, hK_cpA, hI_cpA, hR_cpA, hN_cpA, hQ_cpA, hL_cpA, hn_cpA, hK_bump, hI_bump, hR_bump, hN_bump, hA_bump, hQ_bump, hL_bump, hn_bump, hI_sI, hR_sR, hA_sA, hQ_sQ, hL_sL, hA_cpA, isS, cat_int, cat_ref, cat_null, cat_ra, wds_nil, wds_int, wds_ref, wds_long, wds_ra, nz5, nz7, nz2, idxN, inAN, if_true, if_false, b00, b11, b01, eq_self, true_or, or_true, false_or, or_false, true_and, and_true, false_and, and_false, not_true, not_false_eq_true, nl, Ev_some]; done) | omega) only [iX7_carry_27, iX7_carry_31, iX7_carry_33, iX7_carry_34, iX7_carry_37, iX7_carry_39, iX7_carry_42, iX7_carry_43, iX7_carry_46, iX7_carry_47, ↓reduceIte, ofN, reduceCtorEq, Bool.false_eq_true, Nat.reduceAdd, Nat.reduceMul, Nat.reduceEqDiff, Nat.reduceLeDiff, Nat.reduceLT, le_nlt, ite_not, Nat.lt_irrefl, Decidable.not_not, kn1, kn0, knite, isS, getS, cat_int, cat_ref, cat_null, cat_ra, wds_nil, wds_int, wds_ref, wds_long, wds_ra, b0, b01, b00, b11, b10, if_true, if_false, ite_self, not_true, not_false_eq_true, true_or, or_true, false_or, or_false, true_and, and_true, false_and, and_false, eq_self, idxN, inAN, nI_add, nI_mul, nI_sub, nz5, nz7, nz2, nI_ltN, Nat.add_zero, Nat.zero_add, hK_sI, hR_sI, hN_sI, hA_sI, hQ_sI, hL_sI, hn_sI, hK_sR, hI_sR, hN_sR, hA_sR, hQ_sR, hL_sR, hn_sR, hK_sA, hI_sA, hR_sA, hN_sA, hQ_sA, hL_sA, hn_sA, hK_sQ, hI_sQ, hR_sQ, hN_sQ, hA_sQ, hL_sQ, hn_sQ, hK_sL, hI_sL, hR_sL, hN_sL, hA_sL, hQ_sL, hn_sL, hK_cpA, hI_cpA, hR_cpA, hN_cpA, hQ_cpA, hL_cpA, hn_cpA, hK_bump, hI_bump, hR_bump, hN_bump, hA_bump, hQ_bump, hL_bump, hn_bump, hI_sI, hR_sR, hA_sA, hQ_sQ, hL_sL, hA_cpA, nl, Ev_some]
      exact ⟨h1, rfl, f1, x1⟩
    · rw [if_neg cn] at ex
      rw [if_neg (by rw [day_x n9 d1 d2]; exact cn)] at cp
      rw [ex, Option.isSome_none, Option.getD_none, if_neg (by simp)]
      simp (disch := first | with_reducible assumption | exact cat_int | exact cat_ref | exact cat_null | exact cat_ra | exact Nat.le_of_ble_eq_true rfl | (simp (disch := omega) only [hK_sI, hR_sI, hN_sI, hA_sI, hQ_sI, hL_sI, hn_sI, hK_sR, hI_sR, hN_sR, hA_sR, hQ_sR, hL_sR, hn_sR, hK_sA, hI_sA, hR_sA, hN_sA, hQ_sA, hL_sA, hn_sA, hK_sQ, hI_sQ, hR_sQ, hN_sQ, hA_sQ, hL_sQ, hn_sQ, hK_sL, hI_sL, hR_sL, hN_sL, hA_sL, hQ_sL, hn_sL, hK_cpA, hI_cpA, hR_cpA, hN_cpA, hQ_cpA, hL_cpA, hn_cpA, hK_bump, hI_bump, hR_bump, hN_bump, hA_bump, hQ_bump, hL_bump, hn_bump, hI_sI, hR_sR, hA_sA, hQ_sQ, hL_sL, hA_cpA, isS, cat_int, cat_ref, cat_null, cat_ra, wds_nil, wds_int, wds_ref, wds_long, wds_ra, nz5, nz7, nz2, idxN, inAN, if_true, if_false, b00, b11, b01, eq_self, true_or, or_true, false_or, or_false, true_and, and_true, false_and, and_false, not_true, not_false_eq_true, hk, nn, cp, Ev_some]; done) | omega) only [iX7_carry_0, iX7_carry_1, iX7_carry_3, iX7_carry_6, iX7_carry_7, iX7_carry_8, iX7_carry_11, iX7_carry_14, iX7_carry_15, iX7_carry_16, iX7_carry_19, iX7_carry_20, iX7_carry_21, iX7_carry_24, iX7_carry_27, iX7_carry_30, iX7_carry_31, iX7_carry_33, iX7_carry_34, iX7_carry_37, iX7_carry_39, iX7_carry_42, iX7_carry_43, iX7_carry_46, iX7_carry_47, ↓reduceIte, ofN, reduceCtorEq, Bool.false_eq_true, Nat.reduceAdd, Nat.reduceMul, Nat.reduceEqDiff, Nat.reduceLeDiff, Nat.reduceLT, le_nlt, ite_not, Nat.lt_irrefl, Decidable.not_not, kn1, kn0, knite, isS, getS, cat_int, cat_ref, cat_null, cat_ra, wds_nil, wds_int, wds_ref, wds_long, wds_ra, b0, b01, b00, b11, b10, if_true, if_false, ite_self, not_true, not_false_eq_true, true_or, or_true, false_or, or_false, true_and, and_true, false_and, and_false, eq_self, idxN, inAN, nI_add, nI_mul, nI_sub, nz5, nz7, nz2, nI_ltN, Nat.add_zero, Nat.zero_add, hK_sI, hR_sI, hN_sI, hA_sI, hQ_sI, hL_sI, hn_sI, hK_sR, hI_sR, hN_sR, hA_sR, hQ_sR, hL_sR, hn_sR, hK_sA, hI_sA, hR_sA, hN_sA, hQ_sA, hL_sA, hn_sA, hK_sQ, hI_sQ, hR_sQ, hN_sQ, hA_sQ, hL_sQ, hn_sQ, hK_sL, hI_sL, hR_sL, hN_sL, hA_sL, hQ_sL, hn_sL, hK_cpA, hI_cpA, hR_cpA, hN_cpA, hQ_cpA, hL_cpA, hn_cpA, hK_bump, hI_bump, hR_bump, hN_bump, hA_bump, hQ_bump, hL_bump, hn_bump, hI_sI, hR_sR, hA_sA, hQ_sQ, hL_sL, hA_cpA, hk, nn, cp, Ev_some]
      exact ⟨h, rfl, Fr.rfl, x⟩
  · by_cases k2 : bt t len q = nI 115
    · obtain ⟨d, g, d1, d2, g1, ed, eg⟩ := ord_ks e k1 k2
      have ex := exo_s (r := r) (H := H) (P := P) (G := G) (n := n) k1 k2 ed eg g1
      have nn := en (by rw [k2]; decide)
      rw [ed] at nn
      have ig := d_isGuard (L := L) (xs := xs) (x9 := nI g) x
      have q0 := x.r0
      have n1 : (nI 115 = nI 100) = False := by decide
      rw [k2, eg]
      by_cases cn : g < G
      · rw [if_pos cn] at ex
        rw [inR_n cn (by omega), if_pos rfl] at ig
        have g10 : g < 10 := by omega
        have f2 : Fr (inMb 152) h (sA h 152 (99 + 9 * g) (nI (n / 2 + d))) := Fr.wA Fr.rfl (Or.inr rfl)
        have cc := co _ ex
        have ab2 : hA (sA h 152 (99 + 9 * g) (nI (n / 2 + d))) 152 = pu r (99 + 9 * g) (nI (n / 2) + nI d) := by rw [hA_pu, ab, nI_add]
        have x2 : Mx (sA h 152 (99 + 9 * g) (nI (n / 2 + d))) 152 (pu r (99 + 9 * g) (nI (n / 2) + nI d)) H P G n none := ⟨f2.y y, Or.inl rfl, ab2, cc, x.il⟩
        have ig2 := d_isGuard (L := L) (xs := xs) (x9 := nI g) x2
        rw [inR_n cn (by omega), if_pos rfl] at ig2
        rw [ex, Option.isSome_some, Option.getD_some, if_pos rfl]
        simp (disch := first | with_reducible assumption | exact cat_int | exact cat_ref | exact cat_null | exact cat_ra | exact Nat.le_of_ble_eq_true rfl | (simp (disch := omega) only [hK_sI, hR_sI, hN_sI, hA_sI, hQ_sI, hL_sI, hn_sI, hK_sR, hI_sR, hN_sR, hA_sR, hQ_sR, hL_sR, hn_sR, hK_sA, hI_sA, hR_sA, hN_sA, hQ_sA, hL_sA, hn_sA, hK_sQ, hI_sQ, hR_sQ, hN_sQ, hA_sQ, hL_sQ, hn_sQ, hK_sL, hI_sL, hR_sL, hN_sL, hA_sL, hQ_sL, hn_sL, hK_cpA, hI_cpA, hR_cpA, hN_cpA, hQ_cpA, hL_cpA, hn_cpA, hK_bump, hI_bump, hR_bump, hN_bump, hA_bump, hQ_bump, hL_bump, hn_bump, hI_sI, hR_sR, hA_sA, hQ_sQ, hL_sL, hA_cpA, isS, cat_int, cat_ref, cat_null, cat_ra, wds_nil, wds_int, wds_ref, wds_long, wds_ra, nz5, nz7, nz2, idxN, inAN, if_true, if_false, b00, b11, b01, eq_self, true_or, or_true, false_or, or_false, true_and, and_true, false_and, and_false, not_true, not_false_eq_true, hk, nn, ig, ig2, n1, Y_r113 y, kb, lb, ab, q0, d_give6, g10, Ev_some]; done) | omega) only [iX7_carry_0, iX7_carry_1, iX7_carry_3, iX7_carry_48, iX7_carry_49, iX7_carry_51, iX7_carry_54, iX7_carry_55, iX7_carry_56, iX7_carry_59, iX7_carry_62, iX7_carry_63, iX7_carry_66, iX7_carry_67, iX7_carry_69, iX7_carry_70, iX7_carry_73, iX7_carry_74, iX7_carry_75, iX7_carry_76, iX7_carry_79, iX7_carry_80, iX7_carry_83, iX7_carry_84, iX7_carry_85, iX7_carry_88, ↓reduceIte, ofN, reduceCtorEq, Bool.false_eq_true, Nat.reduceAdd, Nat.reduceMul, Nat.reduceEqDiff, Nat.reduceLeDiff, Nat.reduceLT, le_nlt, ite_not, Nat.lt_irrefl, Decidable.not_not, kn1, kn0, knite, isS, getS, cat_int, cat_ref, cat_null, cat_ra, wds_nil, wds_int, wds_ref, wds_long, wds_ra, b0, b01, b00, b11, b10, if_true, if_false, ite_self, not_true, not_false_eq_true, true_or, or_true, false_or, or_false, true_and, and_true, false_and, and_false, eq_self, idxN, inAN, nI_add, nI_mul, nI_sub, nz5, nz7, nz2, nI_ltN, Nat.add_zero, Nat.zero_add, hK_sI, hR_sI, hN_sI, hA_sI, hQ_sI, hL_sI, hn_sI, hK_sR, hI_sR, hN_sR, hA_sR, hQ_sR, hL_sR, hn_sR, hK_sA, hI_sA, hR_sA, hN_sA, hQ_sA, hL_sA, hn_sA, hK_sQ, hI_sQ, hR_sQ, hN_sQ, hA_sQ, hL_sQ, hn_sQ, hK_sL, hI_sL, hR_sL, hN_sL, hA_sL, hQ_sL, hn_sL, hK_cpA, hI_cpA, hR_cpA, hN_cpA, hQ_cpA, hL_cpA, hn_cpA, hK_bump, hI_bump, hR_bump, hN_bump, hA_bump, hQ_bump, hL_bump, hn_bump, hI_sI, hR_sR, hA_sA, hQ_sQ, hL_sL, hA_cpA, hk, nn, ig, ig2, n1, Y_r113 y, kb, lb, ab, q0, d_give6, g10, Ev_some]
        exact ⟨_, rfl, f2, by rw [nI_add] at x2; exact x2⟩
      · rw [if_neg cn] at ex
        rw [inR_iff (by omega) (by omega), if_neg (by simpa using cn)] at ig
        rw [ex, Option.isSome_none, Option.getD_none, if_neg (by simp)]
        simp (disch := first | with_reducible assumption | exact cat_int | exact cat_ref | exact cat_null | exact cat_ra | exact Nat.le_of_ble_eq_true rfl | (simp (disch := omega) only [hK_sI, hR_sI, hN_sI, hA_sI, hQ_sI, hL_sI, hn_sI, hK_sR, hI_sR, hN_sR, hA_sR, hQ_sR, hL_sR, hn_sR, hK_sA, hI_sA, hR_sA, hN_sA, hQ_sA, hL_sA, hn_sA, hK_sQ, hI_sQ, hR_sQ, hN_sQ, hA_sQ, hL_sQ, hn_sQ, hK_sL, hI_sL, hR_sL, hN_sL, hA_sL, hQ_sL, hn_sL, hK_cpA, hI_cpA, hR_cpA, hN_cpA, hQ_cpA, hL_cpA, hn_cpA, hK_bump, hI_bump, hR_bump, hN_bump, hA_bump, hQ_bump, hL_bump, hn_bump, hI_sI, hR_sR, hA_sA, hQ_sQ, hL_sL, hA_cpA, isS, cat_int, cat_ref, cat_null, cat_ra, wds_nil, wds_int, wds_ref, wds_long, wds_ra, nz5, nz7, nz2, idxN, inAN, if_true, if_false, b00, b11, b01, eq_self, true_or, or_true, false_or, or_false, true_and, and_true, false_and, and_false, not_true, not_false_eq_true, hk, nn, ig, n1, Ev_some]; done) | omega) only [iX7_carry_0, iX7_carry_1, iX7_carry_3, iX7_carry_48, iX7_carry_49, iX7_carry_51, iX7_carry_54, iX7_carry_55, iX7_carry_56, iX7_carry_59, iX7_carry_62, iX7_carry_63, iX7_carry_66, iX7_carry_67, iX7_carry_69, iX7_carry_70, iX7_carry_73, iX7_carry_74, iX7_carry_75, iX7_carry_76, iX7_carry_79, iX7_carry_80, iX7_carry_83, iX7_carry_84, iX7_carry_85, iX7_carry_88, ↓reduceIte, ofN, reduceCtorEq, Bool.false_eq_true, Nat.reduceAdd, Nat.reduceMul, Nat.reduceEqDiff, Nat.reduceLeDiff, Nat.reduceLT, le_nlt, ite_not, Nat.lt_irrefl, Decidable.not_not, kn1, kn0, knite, isS, getS, cat_int, cat_ref, cat_null, cat_ra, wds_nil, wds_int, wds_ref, wds_long, wds_ra, b0, b01, b00, b11, b10, if_true, if_false, ite_self, not_true, not_false_eq_true, true_or, or_true, false_or, or_false, true_and, and_true, false_and, and_false, eq_self, idxN, inAN, nI_add, nI_mul, nI_sub, nz5, nz7, nz2, nI_ltN, Nat.add_zero, Nat.zero_add, hK_sI, hR_sI, hN_sI, hA_sI, hQ_sI, hL_sI, hn_sI, hK_sR, hI_sR, hN_sR, hA_sR, hQ_sR, hL_sR, hn_sR, hK_sA, hI_sA, hR_sA, hN_sA, hQ_sA, hL_sA, hn_sA, hK_sQ, hI_sQ, hR_sQ, hN_sQ, hA_sQ, hL_sQ, hn_sQ, hK_sL, hI_sL, hR_sL, hN_sL, hA_sL, hQ_sL, hn_sL, hK_cpA, hI_cpA, hR_cpA, hN_cpA, hQ_cpA, hL_cpA, hn_cpA, hK_bump, hI_bump, hR_bump, hN_bump, hA_bump, hQ_bump, hL_bump, hn_bump, hI_sI, hR_sR, hA_sA, hQ_sQ, hL_sL, hA_cpA, hk, nn, ig, n1, Ev_some]
        exact ⟨h, rfl, Fr.rfl, x⟩
    · obtain ⟨k3, p, p1, ep⟩ := ord_kc e k1 k2
      have ex := exo_c (r := r) (H := H) (P := P) (G := G) (n := n) k1 k2 ep p1
      have ip := d_isPost (L := L) (xs := xs) (x9 := nI p) x
      have n1 : (nI 99 = nI 100) = False := by decide
      have n2 : (nI 99 = nI 115) = False := by decide
      rw [k3, ep]
      by_cases cp : p < P
      · rw [inR_n cp (by omega), if_pos rfl] at ip
        have cc := d_canC (L := L) (xs := xs) x cp
        cases cq : cmpl (r (25 + 9 * p)) (r (27 + 9 * p)) (nI n) with
        | true =>
          rw [cq, if_pos rfl] at cc
          rw [cq, if_pos ⟨cp, rfl⟩] at ex
          have c9 := co _ ex
          obtain ⟨c, hc, ec⟩ := cb p cp
          rw [ex, Option.isSome_some, Option.getD_some, if_pos rfl]
          simp (disch := first | with_reducible assumption | exact cat_int | exact cat_ref | exact cat_null | exact cat_ra | exact Nat.le_of_ble_eq_true rfl | (simp (disch := omega) only [hK_sI, hR_sI, hN_sI, hA_sI, hQ_sI, hL_sI, hn_sI, hK_sR, hI_sR, hN_sR, hA_sR, hQ_sR, hL_sR, hn_sR, hK_sA, hI_sA, hR_sA, hN_sA, hQ_sA, hL_sA, hn_sA, hK_sQ, hI_sQ, hR_sQ, hN_sQ, hA_sQ, hL_sQ, hn_sQ, hK_sL, hI_sL, hR_sL, hN_sL, hA_sL, hQ_sL, hn_sL, hK_cpA, hI_cpA, hR_cpA, hN_cpA, hQ_cpA, hL_cpA, hn_cpA, hK_bump, hI_bump, hR_bump, hN_bump, hA_bump, hQ_bump, hL_bump, hn_bump, hI_sI, hR_sR, hA_sA, hQ_sQ, hL_sL, hA_cpA, isS, cat_int, cat_ref, cat_null, cat_ra, wds_nil, wds_int, wds_ref, wds_long, wds_ra, nz5, nz7, nz2, idxN, inAN, if_true, if_false, b00, b11, b01, eq_self, true_or, or_true, false_or, or_false, true_and, and_true, false_and, and_false, not_true, not_false_eq_true, hk, ip, cc, n1, n2]; done) | omega) only [iX7_carry_0, iX7_carry_1, iX7_carry_3, iX7_carry_48, iX7_carry_49, iX7_carry_51, iX7_carry_89, iX7_carry_90, iX7_carry_91, iX7_carry_94, iX7_carry_97, iX7_carry_98, iX7_carry_99, iX7_carry_102, iX7_carry_105, iX7_carry_106, iX7_carry_109, iX7_carry_110, iX7_carry_111, iX7_carry_112, iX7_carry_115, iX7_carry_116, iX7_carry_117, ↓reduceIte, ofN, reduceCtorEq, Bool.false_eq_true, Nat.reduceAdd, Nat.reduceMul, Nat.reduceEqDiff, Nat.reduceLeDiff, Nat.reduceLT, le_nlt, ite_not, Nat.lt_irrefl, Decidable.not_not, kn1, kn0, knite, isS, getS, cat_int, cat_ref, cat_null, cat_ra, wds_nil, wds_int, wds_ref, wds_long, wds_ra, b0, b01, b00, b11, b10, if_true, if_false, ite_self, not_true, not_false_eq_true, true_or, or_true, false_or, or_false, true_and, and_true, false_and, and_false, eq_self, idxN, inAN, nI_add, nI_mul, nI_sub, nz5, nz7, nz2, nI_ltN, Nat.add_zero, Nat.zero_add, hK_sI, hR_sI, hN_sI, hA_sI, hQ_sI, hL_sI, hn_sI, hK_sR, hI_sR, hN_sR, hA_sR, hQ_sR, hL_sR, hn_sR, hK_sA, hI_sA, hR_sA, hN_sA, hQ_sA, hL_sA, hn_sA, hK_sQ, hI_sQ, hR_sQ, hN_sQ, hA_sQ, hL_sQ, hn_sQ, hK_sL, hI_sL, hR_sL, hN_sL, hA_sL, hQ_sL, hn_sL, hK_cpA, hI_cpA, hR_cpA, hN_cpA, hQ_cpA, hL_cpA, hn_cpA, hK_bump, hI_bump, hR_bump, hN_bump, hA_bump, hQ_bump, hL_bump, hn_bump, hI_sI, hR_sR, hA_sA, hQ_sQ, hL_sL, hA_cpA, hk, ip, cc, n1, n2]
          refine Ev_call (d_compl x cp) ?_
          rintro _ ⟨h1, rfl, f1, b1⟩
          have pos : 0 < c + 1 := by omega
          rw [ec, nI_add]
          simp (disch := first | with_reducible assumption | exact cat_int | exact cat_ref | exact cat_null | exact cat_ra | exact Nat.le_of_ble_eq_true rfl | (simp (disch := omega) only [hK_sI, hR_sI, hN_sI, hA_sI, hQ_sI, hL_sI, hn_sI, hK_sR, hI_sR, hN_sR, hA_sR, hQ_sR, hL_sR, hn_sR, hK_sA, hI_sA, hR_sA, hN_sA, hQ_sA, hL_sA, hn_sA, hK_sQ, hI_sQ, hR_sQ, hN_sQ, hA_sQ, hL_sQ, hn_sQ, hK_sL, hI_sL, hR_sL, hN_sL, hA_sL, hQ_sL, hn_sL, hK_cpA, hI_cpA, hR_cpA, hN_cpA, hQ_cpA, hL_cpA, hn_cpA, hK_bump, hI_bump, hR_bump, hN_bump, hA_bump, hQ_bump, hL_bump, hn_bump, hI_sI, hR_sR, hA_sA, hQ_sQ, hL_sL, hA_cpA, isS, cat_int, cat_ref, cat_null, cat_ra, wds_nil, wds_int, wds_ref, wds_long, wds_ra, nz5, nz7, nz2, idxN, inAN, if_true, if_false, b00, b11, b01, eq_self, true_or, or_true, false_or, or_false, true_and, and_true, false_and, and_false, not_true, not_false_eq_true, pos, Ev_some]; done) | omega) only [iX7_carry_120, iX7_carry_124, iX7_carry_126, iX7_carry_127, iX7_carry_130, iX7_carry_132, iX7_carry_135, iX7_carry_136, iX7_carry_139, iX7_carry_140, ↓reduceIte, ofN, reduceCtorEq, Bool.false_eq_true, Nat.reduceAdd, Nat.reduceMul, Nat.reduceEqDiff, Nat.reduceLeDiff, Nat.reduceLT, le_nlt, ite_not, Nat.lt_irrefl, Decidable.not_not, kn1, kn0, knite, isS, getS, cat_int, cat_ref, cat_null, cat_ra, wds_nil, wds_int, wds_ref, wds_long, wds_ra, b0, b01, b00, b11, b10, if_true, if_false, ite_self, not_true, not_false_eq_true, true_or, or_true, false_or, or_false, true_and, and_true, false_and, and_false, eq_self, idxN, inAN, nI_add, nI_mul, nI_sub, nz5, nz7, nz2, nI_ltN, Nat.add_zero, Nat.zero_add, hK_sI, hR_sI, hN_sI, hA_sI, hQ_sI, hL_sI, hn_sI, hK_sR, hI_sR, hN_sR, hA_sR, hQ_sR, hL_sR, hn_sR, hK_sA, hI_sA, hR_sA, hN_sA, hQ_sA, hL_sA, hn_sA, hK_sQ, hI_sQ, hR_sQ, hN_sQ, hA_sQ, hL_sQ, hn_sQ, hK_sL, hI_sL, hR_sL, hN_sL, hA_sL, hQ_sL, hn_sL, hK_cpA, hI_cpA, hR_cpA, hN_cpA, hQ_cpA, hL_cpA, hn_cpA, hK_bump, hI_bump, hR_bump, hN_bump, hA_bump, hQ_bump, hL_bump, hn_bump, hI_sI, hR_sR, hA_sA, hQ_sQ, hL_sL, hA_cpA, pos, Ev_some]
          exact ⟨h1, rfl, f1.mB, f1.y y, Or.inl rfl, b1, c9, by rw [f1.fi (by omega)]; exact x.il⟩
        | false =>
          rw [cq, if_neg (by simp)] at cc
          rw [cq, if_neg (by simp)] at ex
          rw [ex, Option.isSome_none, Option.getD_none, if_neg (by simp)]
          simp (disch := first | with_reducible assumption | exact cat_int | exact cat_ref | exact cat_null | exact cat_ra | exact Nat.le_of_ble_eq_true rfl | (simp (disch := omega) only [hK_sI, hR_sI, hN_sI, hA_sI, hQ_sI, hL_sI, hn_sI, hK_sR, hI_sR, hN_sR, hA_sR, hQ_sR, hL_sR, hn_sR, hK_sA, hI_sA, hR_sA, hN_sA, hQ_sA, hL_sA, hn_sA, hK_sQ, hI_sQ, hR_sQ, hN_sQ, hA_sQ, hL_sQ, hn_sQ, hK_sL, hI_sL, hR_sL, hN_sL, hA_sL, hQ_sL, hn_sL, hK_cpA, hI_cpA, hR_cpA, hN_cpA, hQ_cpA, hL_cpA, hn_cpA, hK_bump, hI_bump, hR_bump, hN_bump, hA_bump, hQ_bump, hL_bump, hn_bump, hI_sI, hR_sR, hA_sA, hQ_sQ, hL_sL, hA_cpA, isS, cat_int, cat_ref, cat_null, cat_ra, wds_nil, wds_int, wds_ref, wds_long, wds_ra, nz5, nz7, nz2, idxN, inAN, if_true, if_false, b00, b11, b01, eq_self, true_or, or_true, false_or, or_false, true_and, and_true, false_and, and_false, not_true, not_false_eq_true, hk, ip, cc, n1, n2, Ev_some]; done) | omega) only [iX7_carry_0, iX7_carry_1, iX7_carry_3, iX7_carry_48, iX7_carry_49, iX7_carry_51, iX7_carry_89, iX7_carry_90, iX7_carry_91, iX7_carry_94, iX7_carry_97, iX7_carry_98, iX7_carry_99, iX7_carry_102, iX7_carry_105, iX7_carry_106, iX7_carry_109, iX7_carry_110, iX7_carry_111, iX7_carry_112, iX7_carry_115, iX7_carry_116, iX7_carry_117, iX7_carry_120, iX7_carry_123, iX7_carry_124, iX7_carry_126, iX7_carry_127, iX7_carry_130, iX7_carry_132, iX7_carry_135, iX7_carry_136, iX7_carry_139, iX7_carry_140, ↓reduceIte, ofN, reduceCtorEq, Bool.false_eq_true, Nat.reduceAdd, Nat.reduceMul, Nat.reduceEqDiff, Nat.reduceLeDiff, Nat.reduceLT, le_nlt, ite_not, Nat.lt_irrefl, Decidable.not_not, kn1, kn0, knite, isS, getS, cat_int, cat_ref, cat_null, cat_ra, wds_nil, wds_int, wds_ref, wds_long, wds_ra, b0, b01, b00, b11, b10, if_true, if_false, ite_self, not_true, not_false_eq_true, true_or, or_true, false_or, or_false, true_and, and_true, false_and, and_false, eq_self, idxN, inAN, nI_add, nI_mul, nI_sub, nz5, nz7, nz2, nI_ltN, Nat.add_zero, Nat.zero_add, hK_sI, hR_sI, hN_sI, hA_sI, hQ_sI, hL_sI, hn_sI, hK_sR, hI_sR, hN_sR, hA_sR, hQ_sR, hL_sR, hn_sR, hK_sA, hI_sA, hR_sA, hN_sA, hQ_sA, hL_sA, hn_sA, hK_sQ, hI_sQ, hR_sQ, hN_sQ, hA_sQ, hL_sQ, hn_sQ, hK_sL, hI_sL, hR_sL, hN_sL, hA_sL, hQ_sL, hn_sL, hK_cpA, hI_cpA, hR_cpA, hN_cpA, hQ_cpA, hL_cpA, hn_cpA, hK_bump, hI_bump, hR_bump, hN_bump, hA_bump, hQ_bump, hL_bump, hn_bump, hI_sI, hR_sR, hA_sA, hQ_sQ, hL_sL, hA_cpA, hk, ip, cc, n1, n2, Ev_some]
          exact ⟨h, rfl, Fr.rfl, x⟩
      · rw [inR_iff (by omega) (by omega), if_neg (by simpa using cp)] at ip
        rw [if_neg (fun z => cp z.1)] at ex
        rw [ex, Option.isSome_none, Option.getD_none, if_neg (by simp)]
        simp (disch := first | with_reducible assumption | exact cat_int | exact cat_ref | exact cat_null | exact cat_ra | exact Nat.le_of_ble_eq_true rfl | (simp (disch := omega) only [hK_sI, hR_sI, hN_sI, hA_sI, hQ_sI, hL_sI, hn_sI, hK_sR, hI_sR, hN_sR, hA_sR, hQ_sR, hL_sR, hn_sR, hK_sA, hI_sA, hR_sA, hN_sA, hQ_sA, hL_sA, hn_sA, hK_sQ, hI_sQ, hR_sQ, hN_sQ, hA_sQ, hL_sQ, hn_sQ, hK_sL, hI_sL, hR_sL, hN_sL, hA_sL, hQ_sL, hn_sL, hK_cpA, hI_cpA, hR_cpA, hN_cpA, hQ_cpA, hL_cpA, hn_cpA, hK_bump, hI_bump, hR_bump, hN_bump, hA_bump, hQ_bump, hL_bump, hn_bump, hI_sI, hR_sR, hA_sA, hQ_sQ, hL_sL, hA_cpA, isS, cat_int, cat_ref, cat_null, cat_ra, wds_nil, wds_int, wds_ref, wds_long, wds_ra, nz5, nz7, nz2, idxN, inAN, if_true, if_false, b00, b11, b01, eq_self, true_or, or_true, false_or, or_false, true_and, and_true, false_and, and_false, not_true, not_false_eq_true, hk, ip, n1, n2, Ev_some]; done) | omega) only [iX7_carry_0, iX7_carry_1, iX7_carry_3, iX7_carry_48, iX7_carry_49, iX7_carry_51, iX7_carry_89, iX7_carry_90, iX7_carry_91, iX7_carry_94, iX7_carry_97, iX7_carry_98, iX7_carry_99, iX7_carry_102, iX7_carry_105, iX7_carry_106, iX7_carry_109, iX7_carry_110, iX7_carry_111, iX7_carry_112, iX7_carry_115, iX7_carry_116, iX7_carry_117, iX7_carry_120, iX7_carry_123, iX7_carry_124, iX7_carry_126, iX7_carry_127, iX7_carry_130, iX7_carry_132, iX7_carry_135, iX7_carry_136, iX7_carry_139, iX7_carry_140, ↓reduceIte, ofN, reduceCtorEq, Bool.false_eq_true, Nat.reduceAdd, Nat.reduceMul, Nat.reduceEqDiff, Nat.reduceLeDiff, Nat.reduceLT, le_nlt, ite_not, Nat.lt_irrefl, Decidable.not_not, kn1, kn0, knite, isS, getS, cat_int, cat_ref, cat_null, cat_ra, wds_nil, wds_int, wds_ref, wds_long, wds_ra, b0, b01, b00, b11, b10, if_true, if_false, ite_self, not_true, not_false_eq_true, true_or, or_true, false_or, or_false, true_and, and_true, false_and, and_false, eq_self, idxN, inAN, nI_add, nI_mul, nI_sub, nz5, nz7, nz2, nI_ltN, Nat.add_zero, Nat.zero_add, hK_sI, hR_sI, hN_sI, hA_sI, hQ_sI, hL_sI, hn_sI, hK_sR, hI_sR, hN_sR, hA_sR, hQ_sR, hL_sR, hn_sR, hK_sA, hI_sA, hR_sA, hN_sA, hQ_sA, hL_sA, hn_sA, hK_sQ, hI_sQ, hR_sQ, hN_sQ, hA_sQ, hL_sQ, hn_sQ, hK_sL, hI_sL, hR_sL, hN_sL, hA_sL, hQ_sL, hn_sL, hK_cpA, hI_cpA, hR_cpA, hN_cpA, hQ_cpA, hL_cpA, hn_cpA, hK_bump, hI_bump, hR_bump, hN_bump, hA_bump, hQ_bump, hL_bump, hn_bump, hI_sI, hR_sR, hA_sA, hQ_sQ, hL_sL, hA_cpA, hk, ip, n1, n2, Ev_some]
        exact ⟨h, rfl, Fr.rfl, x⟩
end
