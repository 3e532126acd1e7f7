/-! THE THINGS ARE MADE -/
section
variable {L : Nat} {xs : Nat → Int32} {h h0 h1 h2 h3 : AH} {a k l s i : Nat}
theorem hK_nw : hK (nw h k l s) i = if i = hn h then k else hK h i := Eq.trans rfl rfl
theorem hN_nw : hN (nw h k l s) i = if i = hn h then l else hN h i := Eq.trans rfl rfl
theorem hI_nw {F : Nat} : hI (nw h k l s) F i = if i = hn h then 0 else hI h F i := Eq.trans rfl rfl
theorem hR_nw {F : Nat} : hR (nw h k l s) F i = if i = hn h then none else hR h F i := Eq.trans rfl rfl
theorem hA_nw {j : Nat} : hA (nw h k l s) i j = if i = hn h then 0 else hA h i j := Eq.trans rfl rfl
theorem hQ_nw {j : Nat} : hQ (nw h k l s) i j = if i = hn h then none else hQ h i j := Eq.trans rfl rfl
theorem hn_nw : hn (nw h k l s) = hn h + 1 := Eq.trans rfl rfl
theorem hc_nw : hc (nw h k l s) = hc h + 1 := Eq.trans rfl rfl
theorem hs_nw : hs (nw h k l s) = hs h + s := Eq.trans rfl rfl
theorem hc_sR {F j : Nat} : hc (sR h F i j) = hc h := Eq.trans rfl rfl
theorem hs_sR {F j : Nat} : hs (sR h F i j) = hs h := Eq.trans rfl rfl
theorem hc_sQ {j v : Nat} : hc (sQ h i j v) = hc h := Eq.trans rfl rfl
theorem hs_sQ {j v : Nat} : hs (sQ h i j v) = hs h := Eq.trans rfl rfl
theorem hc_sI {F : Nat} {v : Int32} : hc (sI h F i v) = hc h := Eq.trans rfl rfl
theorem hs_sI {F : Nat} {v : Int32} : hs (sI h F i v) = hs h := Eq.trans rfl rfl
theorem le0 {k : Nat} (hk : k < 20000) : ((0 : Int32) ≤ nI k) = True := by
  have e : (0 : Int32) = nI 0 := rfl
  rw [e, nI_leN (by omega) (by omega)]
  exact eq_true (Nat.zero_le k)
theorem le1 {k : Nat} (hk : k ≤ 10000) : (nI k ≤ (10000 : Int32)) = True := by
  have e : (10000 : Int32) = nI 10000 := rfl
  rw [e, nI_leN (by omega) (by omega)]
  exact eq_true hk
theorem rk9 : rowK 9 = 0 := rfl
theorem rk10 : rowK 10 = 2 := rfl
theorem rk11 : rowK 11 = 5 := rfl
theorem q109 : ((10 : Nat) = 9) = False := by simp
theorem q119 : ((11 : Nat) = 9) = False := by simp
theorem q1110 : ((11 : Nat) = 10) = False := by simp
/-- the things of S stay as they are -/
def Kp (S : Nat → Prop) (h h' : AH) : Prop := ∀ i, S i → hK h' i = hK h i ∧ hN h' i = hN h i ∧ (∀ F, hI h' F i = hI h F i) ∧ (∀ F, hR h' F i = hR h F i) ∧ (∀ j, hA h' i j = hA h i j) ∧ ∀ j, hQ h' i j = hQ h i j
variable {S T : Nat → Prop}
theorem Kp.rf : Kp S h h := fun i _ => ⟨rfl, rfl, fun _ => rfl, fun _ => rfl, fun _ => rfl, fun _ => rfl⟩
theorem Kp.tr (f : Kp S h h1) (g : Kp S h1 h2) : Kp S h h2 := fun i hi => by
  obtain ⟨a1, a2, a3, a4, a5, a6⟩ := f i hi
  obtain ⟨b1, b2, b3, b4, b5, b6⟩ := g i hi
  exact ⟨b1.trans a1, b2.trans a2, fun F => (b3 F).trans (a3 F), fun F => (b4 F).trans (a4 F), fun j => (b5 j).trans (a5 j), fun j => (b6 j).trans (a6 j)⟩
theorem Kp.mono (f : Kp S h h1) (hT : ∀ i, T i → S i) : Kp T h h1 := fun i hi => f i (hT i hi)
theorem Kp.nw (f : Kp S h h1) (hS : ¬ S (hn h1)) : Kp S h (nw h1 k l s) := fun i hi => by
  obtain ⟨a1, a2, a3, a4, a5, a6⟩ := f i hi
  have e : ¬ i = hn h1 := fun z => hS (z ▸ hi)
  refine ⟨?_, ?_, fun F => ?_, fun F => ?_, fun j => ?_, fun j => ?_⟩
  · rw [hK_nw, if_neg e]; exact a1
  · rw [hN_nw, if_neg e]; exact a2
  · rw [hI_nw, if_neg e]; exact a3 F
  · rw [hR_nw, if_neg e]; exact a4 F
  · rw [hA_nw, if_neg e]; exact a5 j
  · rw [hQ_nw, if_neg e]; exact a6 j
theorem Kp.sR {F j : Nat} (f : Kp S h h1) (hS : ¬ S a) : Kp S h (sR h1 F a j) := fun i hi => by
  obtain ⟨a1, a2, a3, a4, a5, a6⟩ := f i hi
  have e : ¬ i = a := fun z => hS (z ▸ hi)
  refine ⟨a1, a2, a3, fun G => ?_, a5, a6⟩
  rw [hR_sR, if_neg (fun z => e z.2)]
  exact a4 G
theorem Kp.sQ {j v : Nat} (f : Kp S h h1) (hS : ¬ S a) : Kp S h (sQ h1 a j v) := fun i hi => by
  obtain ⟨a1, a2, a3, a4, a5, a6⟩ := f i hi
  have e : ¬ i = a := fun z => hS (z ▸ hi)
  refine ⟨a1, a2, a3, a4, a5, fun G => ?_⟩
  rw [hQ_sQ, if_neg (fun z => e z.1)]
  exact a6 G
theorem Kp.sI {F : Nat} {v : Int32} (f : Kp S h h1) (hS : ¬ S a) : Kp S h (sI h1 F a v) := fun i hi => by
  obtain ⟨a1, a2, a3, a4, a5, a6⟩ := f i hi
  have e : ¬ i = a := fun z => hS (z ▸ hi)
  refine ⟨a1, a2, fun G => ?_, a4, a5, a6⟩
  rw [hI_sI, if_neg (fun z => e z.2)]
  exact a3 G
/-- a State under way: i posts, j guards -/
def SI (h0 h : AH) (a i j : Nat) : Prop := (hn h = a + 5 + i + j ∧ hc h = hc h0 + 4 + i + j ∧ hs h = hs h0 + 30 + 9 * i + 9 * j) ∧ (hK h a = 5 ∧ hR h 80 a = some (a + 1) ∧ hR h 81 a = some (a + 2) ∧ hR h 83 a = some (a + 3) ∧ hR h 85 a = some (a + 4) ∧ hK h (a + 1) = 8 ∧ hN h (a + 1) = 6 ∧ hK h (a + 2) = 8 ∧ hN h (a + 2) = 6 ∧ hK h (a + 3) = 10 ∧ hN h (a + 3) = 8 ∧ hK h (a + 4) = 9 ∧ hN h (a + 4) = 10) ∧ (∀ p, p < i → hK h (a + 5 + p) = 2 ∧ hQ h (a + 3) p = some (a + 5 + p)) ∧ (∀ g, g < j → hK h (a + 13 + g) = 0 ∧ hQ h (a + 4) g = some (a + 13 + g)) ∧ (∀ F q, a ≤ q → q < hn h → hI h F q = 0) ∧ Kp (fun q => q < a) h0 h
theorem s_init2 (hk : hK h a = 2) : ev L xs mdX2_init 0 [.ref a] [] h = some (.inl (none, h)) := by
  simp (disch := first | with_reducible assumption | exact cat_int | exact cat_ref | exact cat_null | exact cat_ra | exact Nat.le_of_ble_eq_true rfl | (simp (disch := omega) only [hK_sI, hR_sI, hN_sI, hA_sI, hQ_sI, hL_sI, hn_sI, hK_sR, hI_sR, hN_sR, hA_sR, hQ_sR, hL_sR, hn_sR, hK_sA, hI_sA, hR_sA, hN_sA, hQ_sA, hL_sA, hn_sA, hK_sQ, hI_sQ, hR_sQ, hN_sQ, hA_sQ, hL_sQ, hn_sQ, hK_sL, hI_sL, hR_sL, hN_sL, hA_sL, hQ_sL, hn_sL, hK_cpA, hI_cpA, hR_cpA, hN_cpA, hQ_cpA, hL_cpA, hn_cpA, hK_bump, hI_bump, hR_bump, hN_bump, hA_bump, hQ_bump, hL_bump, hn_bump, hI_sI, hR_sR, hA_sA, hQ_sQ, hL_sL, hA_cpA, isS, cat_int, cat_ref, cat_null, cat_ra, wds_nil, wds_int, wds_ref, wds_long, wds_ra, nz5, nz7, nz2, idxN, inAN, if_true, if_false, b00, b11, b01, eq_self, true_or, or_true, false_or, or_false, true_and, and_true, false_and, and_false, not_true, not_false_eq_true, hk]; done) | omega) only [iX2_init_0, iX2_init_1, iX2_init_4, ↓reduceIte, ofN, reduceCtorEq, Bool.false_eq_true, Nat.reduceAdd, Nat.reduceMul, Nat.reduceEqDiff, Nat.reduceLeDiff, Nat.reduceLT, le_nlt, ite_not, Nat.lt_irrefl, Decidable.not_not, kn1, kn0, knite, isS, getS, cat_int, cat_ref, cat_null, cat_ra, wds_nil, wds_int, wds_ref, wds_long, wds_ra, b0, b01, b00, b11, b10, if_true, if_false, ite_self, not_true, not_false_eq_true, true_or, or_true, false_or, or_false, true_and, and_true, false_and, and_false, eq_self, idxN, inAN, nI_add, nI_mul, nI_sub, nz5, nz7, nz2, nI_ltN, Nat.add_zero, Nat.zero_add, hK_sI, hR_sI, hN_sI, hA_sI, hQ_sI, hL_sI, hn_sI, hK_sR, hI_sR, hN_sR, hA_sR, hQ_sR, hL_sR, hn_sR, hK_sA, hI_sA, hR_sA, hN_sA, hQ_sA, hL_sA, hn_sA, hK_sQ, hI_sQ, hR_sQ, hN_sQ, hA_sQ, hL_sQ, hn_sQ, hK_sL, hI_sL, hR_sL, hN_sL, hA_sL, hQ_sL, hn_sL, hK_cpA, hI_cpA, hR_cpA, hN_cpA, hQ_cpA, hL_cpA, hn_cpA, hK_bump, hI_bump, hR_bump, hN_bump, hA_bump, hQ_bump, hL_bump, hn_bump, hI_sI, hR_sR, hA_sA, hQ_sQ, hL_sL, hA_cpA, hk]
theorem s_init0 (hk : hK h a = 0) : ev L xs mdX0_init 0 [.ref a] [] h = some (.inl (none, h)) := by
  simp (disch := first | with_reducible assumption | exact cat_int | exact cat_ref | exact cat_null | exact cat_ra | exact Nat.le_of_ble_eq_true rfl | (simp (disch := omega) only [hK_sI, hR_sI, hN_sI, hA_sI, hQ_sI, hL_sI, hn_sI, hK_sR, hI_sR, hN_sR, hA_sR, hQ_sR, hL_sR, hn_sR, hK_sA, hI_sA, hR_sA, hN_sA, hQ_sA, hL_sA, hn_sA, hK_sQ, hI_sQ, hR_sQ, hN_sQ, hA_sQ, hL_sQ, hn_sQ, hK_sL, hI_sL, hR_sL, hN_sL, hA_sL, hQ_sL, hn_sL, hK_cpA, hI_cpA, hR_cpA, hN_cpA, hQ_cpA, hL_cpA, hn_cpA, hK_bump, hI_bump, hR_bump, hN_bump, hA_bump, hQ_bump, hL_bump, hn_bump, hI_sI, hR_sR, hA_sA, hQ_sQ, hL_sL, hA_cpA, isS, cat_int, cat_ref, cat_null, cat_ra, wds_nil, wds_int, wds_ref, wds_long, wds_ra, nz5, nz7, nz2, idxN, inAN, if_true, if_false, b00, b11, b01, eq_self, true_or, or_true, false_or, or_false, true_and, and_true, false_and, and_false, not_true, not_false_eq_true, hk]; done) | omega) only [iX0_init_0, iX0_init_1, iX0_init_4, ↓reduceIte, ofN, reduceCtorEq, Bool.false_eq_true, Nat.reduceAdd, Nat.reduceMul, Nat.reduceEqDiff, Nat.reduceLeDiff, Nat.reduceLT, le_nlt, ite_not, Nat.lt_irrefl, Decidable.not_not, kn1, kn0, knite, isS, getS, cat_int, cat_ref, cat_null, cat_ra, wds_nil, wds_int, wds_ref, wds_long, wds_ra, b0, b01, b00, b11, b10, if_true, if_false, ite_self, not_true, not_false_eq_true, true_or, or_true, false_or, or_false, true_and, and_true, false_and, and_false, eq_self, idxN, inAN, nI_add, nI_mul, nI_sub, nz5, nz7, nz2, nI_ltN, Nat.add_zero, Nat.zero_add, hK_sI, hR_sI, hN_sI, hA_sI, hQ_sI, hL_sI, hn_sI, hK_sR, hI_sR, hN_sR, hA_sR, hQ_sR, hL_sR, hn_sR, hK_sA, hI_sA, hR_sA, hN_sA, hQ_sA, hL_sA, hn_sA, hK_sQ, hI_sQ, hR_sQ, hN_sQ, hA_sQ, hL_sQ, hn_sQ, hK_sL, hI_sL, hR_sL, hN_sL, hA_sL, hQ_sL, hn_sL, hK_cpA, hI_cpA, hR_cpA, hN_cpA, hQ_cpA, hL_cpA, hn_cpA, hK_bump, hI_bump, hR_bump, hN_bump, hA_bump, hQ_bump, hL_bump, hn_bump, hI_sI, hR_sR, hA_sA, hQ_sQ, hL_sL, hA_cpA, hk]
theorem s_state (h9 : hn h = a + 1) (hk : hK h a = 5) (hz : ∀ F, hI h F a = 0) : Ev (ev L xs mdX5_init 0 [.ref a, .null] [] h) (fun z => ∃ h', z = .inl (none, h') ∧ SI h h' a 8 10) := by
  simp (disch := first | with_reducible assumption | exact cat_int | exact cat_ref | exact cat_null | exact cat_ra | exact Nat.le_of_ble_eq_true rfl | (simp (disch := omega) only [hK_sI, hR_sI, hN_sI, hA_sI, hQ_sI, hL_sI, hn_sI, hK_sR, hI_sR, hN_sR, hA_sR, hQ_sR, hL_sR, hn_sR, hK_sA, hI_sA, hR_sA, hN_sA, hQ_sA, hL_sA, hn_sA, hK_sQ, hI_sQ, hR_sQ, hN_sQ, hA_sQ, hL_sQ, hn_sQ, hK_sL, hI_sL, hR_sL, hN_sL, hA_sL, hQ_sL, hn_sL, hK_cpA, hI_cpA, hR_cpA, hN_cpA, hQ_cpA, hL_cpA, hn_cpA, hK_bump, hI_bump, hR_bump, hN_bump, hA_bump, hQ_bump, hL_bump, hn_bump, hI_sI, hR_sR, hA_sA, hQ_sQ, hL_sL, hA_cpA, isS, cat_int, cat_ref, cat_null, cat_ra, wds_nil, wds_int, wds_ref, wds_long, wds_ra, nz5, nz7, nz2, idxN, inAN, if_true, if_false, b00, b11, b01, eq_self, true_or, or_true, false_or, or_false, true_and, and_true, false_and, and_false, not_true, not_false_eq_true, hk, h9, le0, le1, hK_nw, hn_nw, eqF]; done) | omega) only [iX5_init_0, iX5_init_1, iX5_init_4, iX5_init_5, iX5_init_7, iX5_init_9, iX5_init_12, iX5_init_13, iX5_init_15, iX5_init_17, iX5_init_20, iX5_init_21, iX5_init_23, iX5_init_26, iX5_init_29, iX5_init_30, iX5_init_32, iX5_init_35, iX5_init_38, iX5_init_39, ↓reduceIte, ofN, reduceCtorEq, Bool.false_eq_true, Nat.reduceAdd, Nat.reduceMul, Nat.reduceEqDiff, Nat.reduceLeDiff, Nat.reduceLT, le_nlt, ite_not, Nat.lt_irrefl, Decidable.not_not, kn1, kn0, knite, isS, getS, cat_int, cat_ref, cat_null, cat_ra, wds_nil, wds_int, wds_ref, wds_long, wds_ra, b0, b01, b00, b11, b10, if_true, if_false, ite_self, not_true, not_false_eq_true, true_or, or_true, false_or, or_false, true_and, and_true, false_and, and_false, eq_self, idxN, inAN, nI_add, nI_mul, nI_sub, nz5, nz7, nz2, nI_ltN, Nat.add_zero, Nat.zero_add, hK_sI, hR_sI, hN_sI, hA_sI, hQ_sI, hL_sI, hn_sI, hK_sR, hI_sR, hN_sR, hA_sR, hQ_sR, hL_sR, hn_sR, hK_sA, hI_sA, hR_sA, hN_sA, hQ_sA, hL_sA, hn_sA, hK_sQ, hI_sQ, hR_sQ, hN_sQ, hA_sQ, hL_sQ, hn_sQ, hK_sL, hI_sL, hR_sL, hN_sL, hA_sL, hQ_sL, hn_sL, hK_cpA, hI_cpA, hR_cpA, hN_cpA, hQ_cpA, hL_cpA, hn_cpA, hK_bump, hI_bump, hR_bump, hN_bump, hA_bump, hQ_bump, hL_bump, hn_bump, hI_sI, hR_sR, hA_sA, hQ_sQ, hL_sL, hA_cpA, hk, h9, le0, le1, hK_nw, hn_nw, eqF]
  refine Ev_loop (n := 8) (fun i Ls h' => Ls = [.ref a, .int (nI i)] ∧ SI h h' a i 0) ?_ ?_ (Nat.zero_le _) ⟨rfl, ?_⟩
  · rintro i Ls h' hi ⟨rfl, ⟨n1, n2, n3⟩, ⟨b1, b2, b3, b4, b5, b6, b7, b8, b9, b10, b11, b12, b13⟩, c1, c2, c3, c4⟩ kk
    have hn' : hn h' = a + 5 + i := n1
    rw [iX5_init_40]
    simp (disch := first | with_reducible assumption | exact cat_int | exact cat_ref | exact cat_null | exact cat_ra | exact Nat.le_of_ble_eq_true rfl | (simp (disch := omega) only [hK_sI, hR_sI, hN_sI, hA_sI, hQ_sI, hL_sI, hn_sI, hK_sR, hI_sR, hN_sR, hA_sR, hQ_sR, hL_sR, hn_sR, hK_sA, hI_sA, hR_sA, hN_sA, hQ_sA, hL_sA, hn_sA, hK_sQ, hI_sQ, hR_sQ, hN_sQ, hA_sQ, hL_sQ, hn_sQ, hK_sL, hI_sL, hR_sL, hN_sL, hA_sL, hQ_sL, hn_sL, hK_cpA, hI_cpA, hR_cpA, hN_cpA, hQ_cpA, hL_cpA, hn_cpA, hK_bump, hI_bump, hR_bump, hN_bump, hA_bump, hQ_bump, hL_bump, hn_bump, hI_sI, hR_sR, hA_sA, hQ_sQ, hL_sL, hA_cpA, isS, cat_int, cat_ref, cat_null, cat_ra, wds_nil, wds_int, wds_ref, wds_long, wds_ra, nz5, nz7, nz2, idxN, inAN, if_true, if_false, b00, b11, b01, eq_self, true_or, or_true, false_or, or_false, true_and, and_true, false_and, and_false, not_true, not_false_eq_true, hi, b1, b4, b10, b11, hn', hK_nw, hR_nw, hN_nw, hn_nw, eqF, s_init2, rk10, q109]; done) | omega) only [iX5_init_41, iX5_init_43, iX5_init_46, iX5_init_47, iX5_init_50, iX5_init_51, iX5_init_54, iX5_init_54i, iX5_init_55, iX5_init_58, iX5_init_59, iX5_init_62, ↓reduceIte, ofN, reduceCtorEq, Bool.false_eq_true, Nat.reduceAdd, Nat.reduceMul, Nat.reduceEqDiff, Nat.reduceLeDiff, Nat.reduceLT, le_nlt, ite_not, Nat.lt_irrefl, Decidable.not_not, kn1, kn0, knite, isS, getS, cat_int, cat_ref, cat_null, cat_ra, wds_nil, wds_int, wds_ref, wds_long, wds_ra, b0, b01, b00, b11, b10, if_true, if_false, ite_self, not_true, not_false_eq_true, true_or, or_true, false_or, or_false, true_and, and_true, false_and, and_false, eq_self, idxN, inAN, nI_add, nI_mul, nI_sub, nz5, nz7, nz2, nI_ltN, Nat.add_zero, Nat.zero_add, hK_sI, hR_sI, hN_sI, hA_sI, hQ_sI, hL_sI, hn_sI, hK_sR, hI_sR, hN_sR, hA_sR, hQ_sR, hL_sR, hn_sR, hK_sA, hI_sA, hR_sA, hN_sA, hQ_sA, hL_sA, hn_sA, hK_sQ, hI_sQ, hR_sQ, hN_sQ, hA_sQ, hL_sQ, hn_sQ, hK_sL, hI_sL, hR_sL, hN_sL, hA_sL, hQ_sL, hn_sL, hK_cpA, hI_cpA, hR_cpA, hN_cpA, hQ_cpA, hL_cpA, hn_cpA, hK_bump, hI_bump, hR_bump, hN_bump, hA_bump, hQ_bump, hL_bump, hn_bump, hI_sI, hR_sR, hA_sA, hQ_sQ, hL_sL, hA_cpA, hi, b1, b4, b10, b11, hn', hK_nw, hR_nw, hN_nw, hn_nw, eqF, s_init2, rk10, q109]
    refine kk _ _ ⟨rfl, ⟨?_, ?_, ?_⟩, ⟨?_, ?_, ?_, ?_, ?_, ?_, ?_, ?_, ?_, ?_, ?_, ?_, ?_⟩, fun p hp => ⟨?_, ?_⟩, fun g hg => absurd hg (by omega), fun F q h1 h2 => ?_, ?_⟩
    · rw [hn_sQ, hn_nw]; omega
    · rw [hc_sQ, hc_nw]; omega
    · rw [hs_sQ, hs_nw]; omega
    · simp (disch := omega) [hK_sQ, hK_nw, hn', eqF, b1]
    · simp (disch := omega) [hR_sQ, hR_nw, hn', eqF, b2]
    · simp (disch := omega) [hR_sQ, hR_nw, hn', eqF, b3]
    · simp (disch := omega) [hR_sQ, hR_nw, hn', eqF, b4]
    · simp (disch := omega) [hR_sQ, hR_nw, hn', eqF, b5]
    · simp (disch := omega) [hK_sQ, hK_nw, hn', eqF, b6]
    · simp (disch := omega) [hN_sQ, hN_nw, hn', eqF, b7]
    · simp (disch := omega) [hK_sQ, hK_nw, hn', eqF, b8]
    · simp (disch := omega) [hN_sQ, hN_nw, hn', eqF, b9]
    · simp (disch := omega) [hK_sQ, hK_nw, hn', eqF, b10]
    · simp (disch := omega) [hN_sQ, hN_nw, hn', eqF, b11]
    · simp (disch := omega) [hK_sQ, hK_nw, hn', eqF, b12]
    · simp (disch := omega) [hN_sQ, hN_nw, hn', eqF, b13]
    · rw [hK_sQ, hK_nw, hn']
      by_cases cp : p = i
      · rw [if_pos (by omega)]
      · rw [if_neg (by omega)]; exact (c1 p (by omega)).1
    · rw [hQ_sQ]
      by_cases cp : p = i
      · rw [if_pos ⟨rfl, cp⟩, cp]
      · rw [if_neg (fun z => cp z.2), hQ_nw, hn', if_neg (by omega)]; exact (c1 p (by omega)).2
    · rw [hI_sQ, hI_nw, hn']
      by_cases cq : q = a + 5 + i
      · rw [if_pos cq]
      · rw [hn_sQ, hn_nw, hn'] at h2
        rw [if_neg cq]; exact c3 F q h1 (by omega)
    · exact Kp.sQ (Kp.nw c4 (by omega)) (by omega)
  · rintro Ls h' ⟨rfl, si⟩
    rw [iX5_init_40]
    simp (disch := first | with_reducible assumption | exact cat_int | exact cat_ref | exact cat_null | exact cat_ra | exact Nat.le_of_ble_eq_true rfl | (simp (disch := omega) only [hK_sI, hR_sI, hN_sI, hA_sI, hQ_sI, hL_sI, hn_sI, hK_sR, hI_sR, hN_sR, hA_sR, hQ_sR, hL_sR, hn_sR, hK_sA, hI_sA, hR_sA, hN_sA, hQ_sA, hL_sA, hn_sA, hK_sQ, hI_sQ, hR_sQ, hN_sQ, hA_sQ, hL_sQ, hn_sQ, hK_sL, hI_sL, hR_sL, hN_sL, hA_sL, hQ_sL, hn_sL, hK_cpA, hI_cpA, hR_cpA, hN_cpA, hQ_cpA, hL_cpA, hn_cpA, hK_bump, hI_bump, hR_bump, hN_bump, hA_bump, hQ_bump, hL_bump, hn_bump, hI_sI, hR_sR, hA_sA, hQ_sQ, hL_sL, hA_cpA, isS, cat_int, cat_ref, cat_null, cat_ra, wds_nil, wds_int, wds_ref, wds_long, wds_ra, nz5, nz7, nz2, idxN, inAN, if_true, if_false, b00, b11, b01, eq_self, true_or, or_true, false_or, or_false, true_and, and_true, false_and, and_false, not_true, not_false_eq_true]; done) | omega) only [iX5_init_41, iX5_init_43, iX5_init_65, iX5_init_66, ↓reduceIte, ofN, reduceCtorEq, Bool.false_eq_true, Nat.reduceAdd, Nat.reduceMul, Nat.reduceEqDiff, Nat.reduceLeDiff, Nat.reduceLT, le_nlt, ite_not, Nat.lt_irrefl, Decidable.not_not, kn1, kn0, knite, isS, getS, cat_int, cat_ref, cat_null, cat_ra, wds_nil, wds_int, wds_ref, wds_long, wds_ra, b0, b01, b00, b11, b10, if_true, if_false, ite_self, not_true, not_false_eq_true, true_or, or_true, false_or, or_false, true_and, and_true, false_and, and_false, eq_self, idxN, inAN, nI_add, nI_mul, nI_sub, nz5, nz7, nz2, nI_ltN, Nat.add_zero, Nat.zero_add, hK_sI, hR_sI, hN_sI, hA_sI, hQ_sI, hL_sI, hn_sI, hK_sR, hI_sR, hN_sR, hA_sR, hQ_sR, hL_sR, hn_sR, hK_sA, hI_sA, hR_sA, hN_sA, hQ_sA, hL_sA, hn_sA, hK_sQ, hI_sQ, hR_sQ, hN_sQ, hA_sQ, hL_sQ, hn_sQ, hK_sL, hI_sL, hR_sL, hN_sL, hA_sL, hQ_sL, hn_sL, hK_cpA, hI_cpA, hR_cpA, hN_cpA, hQ_cpA, hL_cpA, hn_cpA, hK_bump, hI_bump, hR_bump, hN_bump, hA_bump, hQ_bump, hL_bump, hn_bump, hI_sI, hR_sR, hA_sA, hQ_sQ, hL_sL, hA_cpA]
    refine Ev_loop (n := 10) (fun i Ls h' => Ls = [.ref a, .int (nI i)] ∧ SI h h' a 8 i) ?_ ?_ (Nat.zero_le _) ⟨rfl, si⟩
    · rintro i Ls h' hi ⟨rfl, ⟨n1, n2, n3⟩, ⟨b1, b2, b3, b4, b5, b6, b7, b8, b9, b10, b11, b12, b13⟩, c1, c2, c3, c4⟩ kk
      have hn' : hn h' = a + 13 + i := by omega
      rw [iX5_init_67]
      simp (disch := first | with_reducible assumption | exact cat_int | exact cat_ref | exact cat_null | exact cat_ra | exact Nat.le_of_ble_eq_true rfl | (simp (disch := omega) only [hK_sI, hR_sI, hN_sI, hA_sI, hQ_sI, hL_sI, hn_sI, hK_sR, hI_sR, hN_sR, hA_sR, hQ_sR, hL_sR, hn_sR, hK_sA, hI_sA, hR_sA, hN_sA, hQ_sA, hL_sA, hn_sA, hK_sQ, hI_sQ, hR_sQ, hN_sQ, hA_sQ, hL_sQ, hn_sQ, hK_sL, hI_sL, hR_sL, hN_sL, hA_sL, hQ_sL, hn_sL, hK_cpA, hI_cpA, hR_cpA, hN_cpA, hQ_cpA, hL_cpA, hn_cpA, hK_bump, hI_bump, hR_bump, hN_bump, hA_bump, hQ_bump, hL_bump, hn_bump, hI_sI, hR_sR, hA_sA, hQ_sQ, hL_sL, hA_cpA, isS, cat_int, cat_ref, cat_null, cat_ra, wds_nil, wds_int, wds_ref, wds_long, wds_ra, nz5, nz7, nz2, idxN, inAN, if_true, if_false, b00, b11, b01, eq_self, true_or, or_true, false_or, or_false, true_and, and_true, false_and, and_false, not_true, not_false_eq_true, hi, b1, b5, b12, b13, hn', hK_nw, hR_nw, hN_nw, hn_nw, eqF, s_init0, rk9]; done) | omega) only [iX5_init_68, iX5_init_70, iX5_init_73, iX5_init_74, iX5_init_77, iX5_init_78, iX5_init_81, iX5_init_81i, iX5_init_82, iX5_init_85, iX5_init_86, iX5_init_89, ↓reduceIte, ofN, reduceCtorEq, Bool.false_eq_true, Nat.reduceAdd, Nat.reduceMul, Nat.reduceEqDiff, Nat.reduceLeDiff, Nat.reduceLT, le_nlt, ite_not, Nat.lt_irrefl, Decidable.not_not, kn1, kn0, knite, isS, getS, cat_int, cat_ref, cat_null, cat_ra, wds_nil, wds_int, wds_ref, wds_long, wds_ra, b0, b01, b00, b11, b10, if_true, if_false, ite_self, not_true, not_false_eq_true, true_or, or_true, false_or, or_false, true_and, and_true, false_and, and_false, eq_self, idxN, inAN, nI_add, nI_mul, nI_sub, nz5, nz7, nz2, nI_ltN, Nat.add_zero, Nat.zero_add, hK_sI, hR_sI, hN_sI, hA_sI, hQ_sI, hL_sI, hn_sI, hK_sR, hI_sR, hN_sR, hA_sR, hQ_sR, hL_sR, hn_sR, hK_sA, hI_sA, hR_sA, hN_sA, hQ_sA, hL_sA, hn_sA, hK_sQ, hI_sQ, hR_sQ, hN_sQ, hA_sQ, hL_sQ, hn_sQ, hK_sL, hI_sL, hR_sL, hN_sL, hA_sL, hQ_sL, hn_sL, hK_cpA, hI_cpA, hR_cpA, hN_cpA, hQ_cpA, hL_cpA, hn_cpA, hK_bump, hI_bump, hR_bump, hN_bump, hA_bump, hQ_bump, hL_bump, hn_bump, hI_sI, hR_sR, hA_sA, hQ_sQ, hL_sL, hA_cpA, hi, b1, b5, b12, b13, hn', hK_nw, hR_nw, hN_nw, hn_nw, eqF, s_init0, rk9]
      refine kk _ _ ⟨rfl, ⟨?_, ?_, ?_⟩, ⟨?_, ?_, ?_, ?_, ?_, ?_, ?_, ?_, ?_, ?_, ?_, ?_, ?_⟩, fun p hp => ⟨?_, ?_⟩, fun g hg => ⟨?_, ?_⟩, fun F q h1 h2 => ?_, ?_⟩
      · rw [hn_sQ, hn_nw]; omega
      · rw [hc_sQ, hc_nw]; omega
      · rw [hs_sQ, hs_nw]; omega
      · simp (disch := omega) [hK_sQ, hK_nw, hn', eqF, b1]
      · simp (disch := omega) [hR_sQ, hR_nw, hn', eqF, b2]
      · simp (disch := omega) [hR_sQ, hR_nw, hn', eqF, b3]
      · simp (disch := omega) [hR_sQ, hR_nw, hn', eqF, b4]
      · simp (disch := omega) [hR_sQ, hR_nw, hn', eqF, b5]
      · simp (disch := omega) [hK_sQ, hK_nw, hn', eqF, b6]
      · simp (disch := omega) [hN_sQ, hN_nw, hn', eqF, b7]
      · simp (disch := omega) [hK_sQ, hK_nw, hn', eqF, b8]
      · simp (disch := omega) [hN_sQ, hN_nw, hn', eqF, b9]
      · simp (disch := omega) [hK_sQ, hK_nw, hn', eqF, b10]
      · simp (disch := omega) [hN_sQ, hN_nw, hn', eqF, b11]
      · simp (disch := omega) [hK_sQ, hK_nw, hn', eqF, b12]
      · simp (disch := omega) [hN_sQ, hN_nw, hn', eqF, b13]
      · rw [hK_sQ, hK_nw, hn', if_neg (by omega)]; exact (c1 p hp).1
      · rw [hQ_sQ, if_neg (by omega), hQ_nw, hn', if_neg (by omega)]; exact (c1 p hp).2
      · rw [hK_sQ, hK_nw, hn']
        by_cases cp : g = i
        · rw [if_pos (by omega)]
        · rw [if_neg (by omega)]; exact (c2 g (by omega)).1
      · rw [hQ_sQ]
        by_cases cp : g = i
        · rw [if_pos ⟨rfl, cp⟩, cp]
        · rw [if_neg (fun z => cp z.2), hQ_nw, hn', if_neg (by omega)]; exact (c2 g (by omega)).2
      · rw [hI_sQ, hI_nw, hn']
        by_cases cq : q = a + 13 + i
        · rw [if_pos cq]
        · rw [hn_sQ, hn_nw, hn'] at h2
          rw [if_neg cq]; exact c3 F q h1 (by omega)
      · exact Kp.sQ (Kp.nw c4 (by omega)) (by omega)
    · rintro Ls h' ⟨rfl, si⟩
      rw [iX5_init_67]
      simp (disch := first | with_reducible assumption | exact cat_int | exact cat_ref | exact cat_null | exact cat_ra | exact Nat.le_of_ble_eq_true rfl | (simp (disch := omega) only [hK_sI, hR_sI, hN_sI, hA_sI, hQ_sI, hL_sI, hn_sI, hK_sR, hI_sR, hN_sR, hA_sR, hQ_sR, hL_sR, hn_sR, hK_sA, hI_sA, hR_sA, hN_sA, hQ_sA, hL_sA, hn_sA, hK_sQ, hI_sQ, hR_sQ, hN_sQ, hA_sQ, hL_sQ, hn_sQ, hK_sL, hI_sL, hR_sL, hN_sL, hA_sL, hQ_sL, hn_sL, hK_cpA, hI_cpA, hR_cpA, hN_cpA, hQ_cpA, hL_cpA, hn_cpA, hK_bump, hI_bump, hR_bump, hN_bump, hA_bump, hQ_bump, hL_bump, hn_bump, hI_sI, hR_sR, hA_sA, hQ_sQ, hL_sL, hA_cpA, isS, cat_int, cat_ref, cat_null, cat_ra, wds_nil, wds_int, wds_ref, wds_long, wds_ra, nz5, nz7, nz2, idxN, inAN, if_true, if_false, b00, b11, b01, eq_self, true_or, or_true, false_or, or_false, true_and, and_true, false_and, and_false, not_true, not_false_eq_true, Ev_some]; done) | omega) only [iX5_init_68, iX5_init_70, iX5_init_92, ↓reduceIte, ofN, reduceCtorEq, Bool.false_eq_true, Nat.reduceAdd, Nat.reduceMul, Nat.reduceEqDiff, Nat.reduceLeDiff, Nat.reduceLT, le_nlt, ite_not, Nat.lt_irrefl, Decidable.not_not, kn1, kn0, knite, isS, getS, cat_int, cat_ref, cat_null, cat_ra, wds_nil, wds_int, wds_ref, wds_long, wds_ra, b0, b01, b00, b11, b10, if_true, if_false, ite_self, not_true, not_false_eq_true, true_or, or_true, false_or, or_false, true_and, and_true, false_and, and_false, eq_self, idxN, inAN, nI_add, nI_mul, nI_sub, nz5, nz7, nz2, nI_ltN, Nat.add_zero, Nat.zero_add, hK_sI, hR_sI, hN_sI, hA_sI, hQ_sI, hL_sI, hn_sI, hK_sR, hI_sR, hN_sR, hA_sR, hQ_sR, hL_sR, hn_sR, hK_sA, hI_sA, hR_sA, hN_sA, hQ_sA, hL_sA, hn_sA, hK_sQ, hI_sQ, hR_sQ, hN_sQ, hA_sQ, hL_sQ, hn_sQ, hK_sL, hI_sL, hR_sL, hN_sL, hA_sL, hQ_sL, hn_sL, hK_cpA, hI_cpA, hR_cpA, hN_cpA, hQ_cpA, hL_cpA, hn_cpA, hK_bump, hI_bump, hR_bump, hN_bump, hA_bump, hQ_bump, hL_bump, hn_bump, hI_sI, hR_sR, hA_sA, hQ_sQ, hL_sL, hA_cpA, Ev_some]
      exact ⟨h', rfl, si⟩
  · refine ⟨⟨?_, ?_, ?_⟩, ⟨?_, ?_, ?_, ?_, ?_, ?_, ?_, ?_, ?_, ?_, ?_, ?_, ?_⟩, fun p hp => absurd hp (by omega), fun p hp => absurd hp (by omega), fun F q h1 h2 => ?_, ?_⟩
    · simp [hn_sR, hn_nw, h9]
    · simp [hc_sR, hc_nw]
    · simp [hs_sR, hs_nw, idxN]
    · simp (disch := omega) [hK_sR, hK_nw, hn_sR, hn_nw, h9, hk, eqF]
    · simp (disch := omega) [hR_sR, hR_nw, hn_sR, hn_nw, h9, eqF]
    · simp (disch := omega) [hR_sR, hR_nw, hn_sR, hn_nw, h9, eqF]
    · simp (disch := omega) [hR_sR, hR_nw, hn_sR, hn_nw, h9, eqF]
    · simp (disch := omega) [hR_sR, hR_nw, hn_sR, hn_nw, h9, eqF]
    · simp (disch := omega) [hK_sR, hK_nw, hn_sR, hn_nw, h9]
    · simp (disch := omega) [hN_sR, hN_nw, hn_sR, hn_nw, h9, idxN]
    · simp (disch := omega) [hK_sR, hK_nw, hn_sR, hn_nw, h9]
    · simp (disch := omega) [hN_sR, hN_nw, hn_sR, hn_nw, h9, idxN]
    · simp (disch := omega) [hK_sR, hK_nw, hn_sR, hn_nw, h9]
    · simp (disch := omega) [hN_sR, hN_nw, hn_sR, hn_nw, h9, idxN]
    · simp (disch := omega) [hK_sR, hK_nw, hn_sR, hn_nw, h9]
    · simp (disch := omega) [hN_sR, hN_nw, hn_sR, hn_nw, h9, idxN]
    · simp only [hn_sR, hn_nw, h9] at h2
      have : q = a ∨ q = a + 1 ∨ q = a + 2 ∨ q = a + 3 ∨ q = a + 4 := by omega
      rcases this with e | e | e | e | e <;> subst e <;> simp [hI_sR, hI_nw, hn_sR, hn_nw, h9, hz]
    · refine Kp.sR (Kp.nw (Kp.sR (Kp.nw (Kp.sR (Kp.nw (Kp.sR (Kp.nw Kp.rf ?_) ?_) ?_) ?_) ?_) ?_) ?_) ?_
      all_goals (try simp only [hn_sR, hn_nw, h9])
      all_goals omega
end
