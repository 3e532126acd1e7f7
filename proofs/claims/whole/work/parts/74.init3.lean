/-! THE LAW BEGINS -/
section
variable {L : Nat} {xs : Nat → Int32} {h h0 h1 h2 h3 : AH} {a k l s i : Nat}
def mHeap (h : AH) : AH := sI (sI (sR (nw (sR (nw (sR (nw (sR (nw (sR (nw (sR (nw (sR (nw (sR (nw h 8 183 183) 113 151 152) 8 183 183) 114 151 153) 8 732 732) 115 151 154) 8 90 90) 117 151 155) 8 8 8) 119 151 156) 8 8 8) 120 151 157) 8 10 10) 121 151 158) 8 256 256) 123 151 159) 112 151 (nI 0)) 122 151 (-1)
theorem d_model (h9 : hn h = 152) (hk : hK h 151 = 7) : ev L xs mdX7_init 0 [.ref 151] [] h = some (.inl (none, mHeap h)) := by
  have k8 : (nI 8).toNatClampNeg = 8 := rfl
  have k10 : (nI 10).toNatClampNeg = 10 := rfl
  have k90 : (nI 90).toNatClampNeg = 90 := rfl
  have k183 : (nI 183).toNatClampNeg = 183 := rfl
  have k256 : (nI 256).toNatClampNeg = 256 := rfl
  have k732 : (nI 732).toNatClampNeg = 732 := rfl
  unfold mHeap
  simp (disch := first | with_reducible assumption | exact cat_int | exact cat_ref | exact cat_null | exact cat_ra | exact Nat.le_of_ble_eq_true rfl | (simp (disch := omega) only [hK_sI, hR_sI, hN_sI, hA_sI, hQ_sI, hL_sI, hn_sI, hK_sR, hI_sR, hN_sR, hA_sR, hQ_sR, hL_sR, hn_sR, hK_sA, hI_sA, hR_sA, hN_sA, hQ_sA, hL_sA, hn_sA, hK_sQ, hI_sQ, hR_sQ, hN_sQ, hA_sQ, hL_sQ, hn_sQ, hK_sL, hI_sL, hR_sL, hN_sL, hA_sL, hQ_sL, hn_sL, hK_cpA, hI_cpA, hR_cpA, hN_cpA, hQ_cpA, hL_cpA, hn_cpA, hK_bump, hI_bump, hR_bump, hN_bump, hA_bump, hQ_bump, hL_bump, hn_bump, hI_sI, hR_sR, hA_sA, hQ_sQ, hL_sL, hA_cpA, isS, cat_int, cat_ref, cat_null, cat_ra, wds_nil, wds_int, wds_ref, wds_long, wds_ra, nz5, nz7, nz2, idxN, inAN, if_true, if_false, b00, b11, b01, eq_self, true_or, or_true, false_or, or_false, true_and, and_true, false_and, and_false, not_true, not_false_eq_true, hk, h9, le0, le1, hK_nw, hn_nw, eqF, k8, k10, k90, k183, k256, k732]; done) | omega) only [iX7_init_0, iX7_init_1, iX7_init_4, iX7_init_5, iX7_init_8, iX7_init_10, iX7_init_13, iX7_init_14, iX7_init_17, iX7_init_19, iX7_init_22, iX7_init_23, iX7_init_26, iX7_init_28, iX7_init_31, iX7_init_32, iX7_init_34, iX7_init_36, iX7_init_39, iX7_init_40, iX7_init_42, iX7_init_44, iX7_init_47, iX7_init_48, iX7_init_50, iX7_init_52, iX7_init_55, iX7_init_56, iX7_init_58, iX7_init_60, iX7_init_63, iX7_init_64, iX7_init_67, iX7_init_69, iX7_init_72, iX7_init_73, iX7_init_74, iX7_init_77, iX7_init_78, iX7_init_79, iX7_init_82, ↓reduceIte, ofN, reduceCtorEq, Bool.false_eq_true, Nat.reduceAdd, Nat.reduceMul, Nat.reduceEqDiff, Nat.reduceLeDiff, Nat.reduceLT, le_nlt, ite_not, Nat.lt_irrefl, Decidable.not_not, kn1, kn0, knite, isS, getS, cat_int, cat_ref, cat_null, cat_ra, wds_nil, wds_int, wds_ref, wds_long, wds_ra, b0, b01, b00, b11, b10, if_true, if_false, ite_self, not_true, not_false_eq_true, true_or, or_true, false_or, or_false, true_and, and_true, false_and, and_false, eq_self, idxN, inAN, nI_add, nI_mul, nI_sub, nz5, nz7, nz2, nI_ltN, Nat.add_zero, Nat.zero_add, hK_sI, hR_sI, hN_sI, hA_sI, hQ_sI, hL_sI, hn_sI, hK_sR, hI_sR, hN_sR, hA_sR, hQ_sR, hL_sR, hn_sR, hK_sA, hI_sA, hR_sA, hN_sA, hQ_sA, hL_sA, hn_sA, hK_sQ, hI_sQ, hR_sQ, hN_sQ, hA_sQ, hL_sQ, hn_sQ, hK_sL, hI_sL, hR_sL, hN_sL, hA_sL, hQ_sL, hn_sL, hK_cpA, hI_cpA, hR_cpA, hN_cpA, hQ_cpA, hL_cpA, hn_cpA, hK_bump, hI_bump, hR_bump, hN_bump, hA_bump, hQ_bump, hL_bump, hn_bump, hI_sI, hR_sR, hA_sA, hQ_sQ, hL_sL, hA_cpA, hk, h9, le0, le1, hK_nw, hn_nw, eqF, k8, k10, k90, k183, k256, k732]
/-- the model, fresh -/
def MI (h : AH) : Prop := hn h = 160 ∧ MF h ∧ hI h 112 151 = nI 0 ∧ hI h 122 151 = -1 ∧ hI h 116 151 = 0 ∧ hI h 118 151 = 0 ∧ (∀ j, hA h 152 j = 0) ∧ ∀ j, hA h 155 j = 0
theorem mHeap_ok (h9 : hn h = 152) (hk : hK h 151 = 7) (hz : ∀ F, hI h F 151 = 0) : MI (mHeap h) ∧ Kp (fun q => q < 151) h (mHeap h) ∧ hc (mHeap h) = hc h + 8 ∧ hs (mHeap h) = hs h + 1470 := by
  unfold mHeap
  refine ⟨⟨?_, ?_, ?_, ?_, ?_, ?_, fun j => ?_, fun j => ?_⟩, ?_, ?_, ?_⟩
  · simp [hn_sI, hn_sR, hn_nw, h9]
  · refine ⟨?_, ?_, ?_, ?_, ?_, ?_, ?_, ?_, ?_, ?_, ?_, ?_, ?_, ?_, ?_, ?_, ?_, ?_, ?_, ?_, ?_, ?_, ?_, ?_, ?_⟩ <;> simp [hK_sI, hN_sI, hR_sI, hK_sR, hK_nw, hN_sR, hN_nw, hR_sR, hR_nw, hn_sR, hn_nw, h9, hk]
  · simp [hI_sI]
  · simp [hI_sI]
  · simp [hI_sI, hI_sR, hI_nw, hn_sR, hn_nw, h9, hz]
  · simp [hI_sI, hI_sR, hI_nw, hn_sR, hn_nw, h9, hz]
  · simp [hA_sI, hA_sR, hA_nw, hn_sR, hn_nw, h9]
  · simp [hA_sI, hA_sR, hA_nw, hn_sR, hn_nw, h9]
  · refine Kp.sI (Kp.sI (Kp.sR (Kp.nw (Kp.sR (Kp.nw (Kp.sR (Kp.nw (Kp.sR (Kp.nw (Kp.sR (Kp.nw (Kp.sR (Kp.nw (Kp.sR (Kp.nw (Kp.sR (Kp.nw Kp.rf ?_) ?_) ?_) ?_) ?_) ?_) ?_) ?_) ?_) ?_) ?_) ?_) ?_) ?_) ?_) ?_) ?_) ?_
    all_goals (try simp only [hn_sR, hn_nw, h9])
    all_goals (try dsimp only)
    all_goals first | omega | simp
  · simp only [hc_sI, hc_sR, hc_nw]
  · simp only [hs_sI, hs_sR, hs_nw]
/-- the heap at the start -/
def hE : AH := (fun _ => 0, fun _ _ => 0, fun _ _ => none, fun _ => 0, fun _ _ => 0, fun _ _ => none, fun _ _ => 0, 0, 0, 0)
def rZ : Rw := fun _ => 0
def svZ : Nat → SvT := fun _ => (rZ, 0, 0, 0, 0)
theorem law_init {z : Nat} {Q : Res → Prop} (K : ∀ h' v5 v6 v7 v8, LR h' (rZ, 0, 0, 0, 0) 0 svZ rZ 0 0 → hn h' = 161 → hc h' ≤ 200 → hs h' ≤ 5000 → Ev (ev L xs mdL_law 23 [.retAddr z, .ref 0, .ref 151, .ref 160, .int (nI 0), v5, v6, v7, v8] [] h') Q) : Ev (ev L xs mdL_law 0 [.retAddr z, .null, .null, .null, .null, .null, .null, .null, .null] [] hE) Q := by
  have n0 : hn hE = 0 := rfl
  have c0 : hc hE = 0 := rfl
  have s0 : hs hE = 0 := rfl
  simp (disch := first | with_reducible assumption | exact cat_int | exact cat_ref | exact cat_null | exact cat_ra | exact Nat.le_of_ble_eq_true rfl | (simp (disch := omega) only [hK_sI, hR_sI, hN_sI, hA_sI, hQ_sI, hL_sI, hn_sI, hK_sR, hI_sR, hN_sR, hA_sR, hQ_sR, hL_sR, hn_sR, hK_sA, hI_sA, hR_sA, hN_sA, hQ_sA, hL_sA, hn_sA, hK_sQ, hI_sQ, hR_sQ, hN_sQ, hA_sQ, hL_sQ, hn_sQ, hK_sL, hI_sL, hR_sL, hN_sL, hA_sL, hQ_sL, hn_sL, hK_cpA, hI_cpA, hR_cpA, hN_cpA, hQ_cpA, hL_cpA, hn_cpA, hK_bump, hI_bump, hR_bump, hN_bump, hA_bump, hQ_bump, hL_bump, hn_bump, hI_sI, hR_sR, hA_sA, hQ_sQ, hL_sL, hA_cpA, isS, cat_int, cat_ref, cat_null, cat_ra, wds_nil, wds_int, wds_ref, wds_long, wds_ra, nz5, nz7, nz2, idxN, inAN, if_true, if_false, b00, b11, b01, eq_self, true_or, or_true, false_or, or_false, true_and, and_true, false_and, and_false, not_true, not_false_eq_true, n0, hK_nw, hn_nw]; done) | omega) only [iL_law_0, iL_law_3, iL_law_3i, iL_law_4, ↓reduceIte, ofN, reduceCtorEq, Bool.false_eq_true, Nat.reduceAdd, Nat.reduceMul, Nat.reduceEqDiff, Nat.reduceLeDiff, Nat.reduceLT, le_nlt, ite_not, Nat.lt_irrefl, Decidable.not_not, kn1, kn0, knite, isS, getS, cat_int, cat_ref, cat_null, cat_ra, wds_nil, wds_int, wds_ref, wds_long, wds_ra, b0, b01, b00, b11, b10, if_true, if_false, ite_self, not_true, not_false_eq_true, true_or, or_true, false_or, or_false, true_and, and_true, false_and, and_false, eq_self, idxN, inAN, nI_add, nI_mul, nI_sub, nz5, nz7, nz2, nI_ltN, Nat.add_zero, Nat.zero_add, hK_sI, hR_sI, hN_sI, hA_sI, hQ_sI, hL_sI, hn_sI, hK_sR, hI_sR, hN_sR, hA_sR, hQ_sR, hL_sR, hn_sR, hK_sA, hI_sA, hR_sA, hN_sA, hQ_sA, hL_sA, hn_sA, hK_sQ, hI_sQ, hR_sQ, hN_sQ, hA_sQ, hL_sQ, hn_sQ, hK_sL, hI_sL, hR_sL, hN_sL, hA_sL, hQ_sL, hn_sL, hK_cpA, hI_cpA, hR_cpA, hN_cpA, hQ_cpA, hL_cpA, hn_cpA, hK_bump, hI_bump, hR_bump, hN_bump, hA_bump, hQ_bump, hL_bump, hn_bump, hI_sI, hR_sR, hA_sA, hQ_sQ, hL_sL, hA_cpA, n0, hK_nw, hn_nw]
  refine Ev_call (s_class (by rw [hn_nw, n0]) (by rw [hK_nw, if_pos n0.symm]) (fun F => by rw [hI_nw, if_pos n0.symm]) (by rw [hc_nw, c0]; omega) (by rw [hs_nw, s0]; omega)) ?_
  rintro _ ⟨h1, rfl, n1, c1, s1, cf, sb1, sb2, sv, e99, e17, e55⟩
  have n1' : hn h1 = 151 := n1
  simp (disch := first | with_reducible assumption | exact cat_int | exact cat_ref | exact cat_null | exact cat_ra | exact Nat.le_of_ble_eq_true rfl | (simp (disch := omega) only [hK_sI, hR_sI, hN_sI, hA_sI, hQ_sI, hL_sI, hn_sI, hK_sR, hI_sR, hN_sR, hA_sR, hQ_sR, hL_sR, hn_sR, hK_sA, hI_sA, hR_sA, hN_sA, hQ_sA, hL_sA, hn_sA, hK_sQ, hI_sQ, hR_sQ, hN_sQ, hA_sQ, hL_sQ, hn_sQ, hK_sL, hI_sL, hR_sL, hN_sL, hA_sL, hQ_sL, hn_sL, hK_cpA, hI_cpA, hR_cpA, hN_cpA, hQ_cpA, hL_cpA, hn_cpA, hK_bump, hI_bump, hR_bump, hN_bump, hA_bump, hQ_bump, hL_bump, hn_bump, hI_sI, hR_sR, hA_sA, hQ_sQ, hL_sL, hA_cpA, isS, cat_int, cat_ref, cat_null, cat_ra, wds_nil, wds_int, wds_ref, wds_long, wds_ra, nz5, nz7, nz2, idxN, inAN, if_true, if_false, b00, b11, b01, eq_self, true_or, or_true, false_or, or_false, true_and, and_true, false_and, and_false, not_true, not_false_eq_true, n1', hK_nw, hn_nw, eqF, d_model]; done) | omega) only [iL_law_7, iL_law_8, iL_law_11, iL_law_11i, iL_law_12, ↓reduceIte, ofN, reduceCtorEq, Bool.false_eq_true, Nat.reduceAdd, Nat.reduceMul, Nat.reduceEqDiff, Nat.reduceLeDiff, Nat.reduceLT, le_nlt, ite_not, Nat.lt_irrefl, Decidable.not_not, kn1, kn0, knite, isS, getS, cat_int, cat_ref, cat_null, cat_ra, wds_nil, wds_int, wds_ref, wds_long, wds_ra, b0, b01, b00, b11, b10, if_true, if_false, ite_self, not_true, not_false_eq_true, true_or, or_true, false_or, or_false, true_and, and_true, false_and, and_false, eq_self, idxN, inAN, nI_add, nI_mul, nI_sub, nz5, nz7, nz2, nI_ltN, Nat.add_zero, Nat.zero_add, hK_sI, hR_sI, hN_sI, hA_sI, hQ_sI, hL_sI, hn_sI, hK_sR, hI_sR, hN_sR, hA_sR, hQ_sR, hL_sR, hn_sR, hK_sA, hI_sA, hR_sA, hN_sA, hQ_sA, hL_sA, hn_sA, hK_sQ, hI_sQ, hR_sQ, hN_sQ, hA_sQ, hL_sQ, hn_sQ, hK_sL, hI_sL, hR_sL, hN_sL, hA_sL, hQ_sL, hn_sL, hK_cpA, hI_cpA, hR_cpA, hN_cpA, hQ_cpA, hL_cpA, hn_cpA, hK_bump, hI_bump, hR_bump, hN_bump, hA_bump, hQ_bump, hL_bump, hn_bump, hI_sI, hR_sR, hA_sA, hQ_sQ, hL_sL, hA_cpA, n1', hK_nw, hn_nw, eqF, d_model]
  have m0 := mHeap_ok (h := nw h1 7 0 15) (by rw [hn_nw, n1']) (by rw [hK_nw, if_pos n1'.symm]) (fun F => by rw [hI_nw, if_pos n1'.symm])
  obtain ⟨⟨m1, m2, m3, m4, m5, m6, m7, m8⟩, kp0, mc, ms⟩ := m0
  generalize mHeap (nw h1 7 0 15) = h2 at *
  have k1 : (nI 1).toNatClampNeg = 1 := rfl
  simp (disch := first | with_reducible assumption | exact cat_int | exact cat_ref | exact cat_null | exact cat_ra | exact Nat.le_of_ble_eq_true rfl | (simp (disch := omega) only [hK_sI, hR_sI, hN_sI, hA_sI, hQ_sI, hL_sI, hn_sI, hK_sR, hI_sR, hN_sR, hA_sR, hQ_sR, hL_sR, hn_sR, hK_sA, hI_sA, hR_sA, hN_sA, hQ_sA, hL_sA, hn_sA, hK_sQ, hI_sQ, hR_sQ, hN_sQ, hA_sQ, hL_sQ, hn_sQ, hK_sL, hI_sL, hR_sL, hN_sL, hA_sL, hQ_sL, hn_sL, hK_cpA, hI_cpA, hR_cpA, hN_cpA, hQ_cpA, hL_cpA, hn_cpA, hK_bump, hI_bump, hR_bump, hN_bump, hA_bump, hQ_bump, hL_bump, hn_bump, hI_sI, hR_sR, hA_sA, hQ_sQ, hL_sL, hA_cpA, isS, cat_int, cat_ref, cat_null, cat_ra, wds_nil, wds_int, wds_ref, wds_long, wds_ra, nz5, nz7, nz2, idxN, inAN, if_true, if_false, b00, b11, b01, eq_self, true_or, or_true, false_or, or_false, true_and, and_true, false_and, and_false, not_true, not_false_eq_true, m1, le0, le1, k1]; done) | omega) only [iL_law_15, iL_law_16, iL_law_17, iL_law_19, iL_law_20, iL_law_21, ↓reduceIte, ofN, reduceCtorEq, Bool.false_eq_true, Nat.reduceAdd, Nat.reduceMul, Nat.reduceEqDiff, Nat.reduceLeDiff, Nat.reduceLT, le_nlt, ite_not, Nat.lt_irrefl, Decidable.not_not, kn1, kn0, knite, isS, getS, cat_int, cat_ref, cat_null, cat_ra, wds_nil, wds_int, wds_ref, wds_long, wds_ra, b0, b01, b00, b11, b10, if_true, if_false, ite_self, not_true, not_false_eq_true, true_or, or_true, false_or, or_false, true_and, and_true, false_and, and_false, eq_self, idxN, inAN, nI_add, nI_mul, nI_sub, nz5, nz7, nz2, nI_ltN, Nat.add_zero, Nat.zero_add, hK_sI, hR_sI, hN_sI, hA_sI, hQ_sI, hL_sI, hn_sI, hK_sR, hI_sR, hN_sR, hA_sR, hQ_sR, hL_sR, hn_sR, hK_sA, hI_sA, hR_sA, hN_sA, hQ_sA, hL_sA, hn_sA, hK_sQ, hI_sQ, hR_sQ, hN_sQ, hA_sQ, hL_sQ, hn_sQ, hK_sL, hI_sL, hR_sL, hN_sL, hA_sL, hQ_sL, hn_sL, hK_cpA, hI_cpA, hR_cpA, hN_cpA, hQ_cpA, hL_cpA, hn_cpA, hK_bump, hI_bump, hR_bump, hN_bump, hA_bump, hQ_bump, hL_bump, hn_bump, hI_sI, hR_sR, hA_sA, hQ_sQ, hL_sL, hA_cpA, m1, le0, le1, k1]
  have kp1 : Kp (fun q => q < 151) h1 (nw h2 12 1 1) := Kp.nw (Kp.tr (Kp.nw Kp.rf (by rw [n1']; omega)) kp0) (by rw [m1]; omega)
  have kp2 : Kp (fun q => q < 160) h2 (nw h2 12 1 1) := Kp.nw Kp.rf (by rw [m1]; omega)
  have cf9 : CF (nw h2 12 1 1) := cf.kp (kp1.mono (fun q hq => by unfold inCF at hq; omega))
  have mf9 : MF (nw h2 12 1 1) := m2.kp (kp2.mono (fun q hq => by unfold inMF at hq; omega))
  have k160 : hK (nw h2 12 1 1) 160 = 12 := by rw [hK_nw, if_pos m1.symm]
  have n160 : hN (nw h2 12 1 1) 160 = 1 := by rw [hN_nw, if_pos m1.symm]
  have sv0 := sv 0 (by omega)
  have sv1 := sv 1 (by omega)
  have sv2 := sv 2 (by omega)
  have sv3 := sv 3 (by omega)
  have b1 := sb1.kp kp1 (fun q h1 h2 => by omega)
  have b2 := sb2.kp kp1 (fun q h1 h2 => by omega)
  have b3 := sv0.2.kp kp1 (fun q h1 h2 => by omega)
  have b4 := sv1.2.kp kp1 (fun q h1 h2 => by omega)
  have b5 := sv2.2.kp kp1 (fun q h1 h2 => by omega)
  have b6 := sv3.2.kp kp1 (fun q h1 h2 => by omega)
  have q47 := fun j => (kp1 47 (by omega)).2.2.2.2.2 j
  have y : LayF (nw h2 12 1 1) := by
    obtain ⟨e0, e1, e2, e3, e4, e5, e6, e7, e8, e9, e10, e11, e12, e13, e14, e15, e16, e17, e18, e19, e20, e21, e22, e23, e24, e25, e26, e27, e28, e29, e30, e31, e32, e33, e34, e35⟩ := cf9
    obtain ⟨f0, f1, f2, f3, f4, f5, f6, f7, f8, f9, f10, f11, f12, f13, f14, f15, f16, f17, f18, f19, f20, f21, f22, f23, f24⟩ := mf9
    exact ⟨e0, e1, e2, e3, e4, e5, e6, e7, e8, e9, e10, e11, e12, f0, f1, f2, f3, f4, f5, f6, f7, f8, k160, e13, e14, e15, e16, e17, e18, e19, e20, e21, f9, f10, f11, f12, f13, f14, f15, f16, n160, e22, e23, e24, e25, e26, e27, e28, e29, e30, e31, e32, e33, e34, e35, f17, f18, f19, f20, f21, f22, f23, f24⟩
  have cr : CR (nw h2 12 1 1) (rZ, 0, 0, 0, 0) 0 svZ rZ 0 := by
    refine ⟨y, fun a ha => ?_, ⟨Nat.zero_le 6, Nat.zero_le 8, Nat.zero_le 10, (show 0 < 20000 by omega), ?_, ?_, ?_, ?_, ?_, ?_, fun i hi => absurd hi (Nat.not_lt_zero _), fun i hi => absurd hi (Nat.not_lt_zero _), fun i hi => absurd hi (Nat.not_lt_zero _)⟩, by omega, ?_, ⟨fun i => 59 + 23 * i, ⟨fun i hi => ⟨?_, ?_⟩, fun i j _ _ e => by have e9 : 59 + 23 * i = 59 + 23 * j := e; omega⟩, fun i hi => absurd hi (Nat.not_lt_zero _)⟩, ?_, ?_, by omega⟩
    · rcases ha with e | e | e | e | e | e <;> subst e
      · exact b1.1
      · exact b2.1
      · exact b3.1
      · exact b4.1
      · exact b5.1
      · exact b6.1
    · exact b1.2 _ _ (by omega) (by omega)
    · exact b1.2 _ _ (by omega) (by omega)
    · exact b1.2 _ _ (by omega) (by omega)
    · exact b1.2 _ _ (by omega) (by omega)
    · exact b1.2 _ _ (by omega) (by omega)
    · exact b1.2 _ _ (by omega) (by omega)
    · rw [(kp1 0 (by omega)).2.2.1]; exact e99
    · rw [q47]; exact (sv i hi).1
    · show isVb (59 + 23 * i)
      unfold isVb; omega
    · funext j; rw [(kp1 55 (by omega)).2.2.2.2.1]; exact e55 j
    · rw [(kp1 54 (by omega)).2.2.1]; exact e17
  have mr : MR (nw h2 12 1 1) (rZ, 0, 0, 0, 0) 0 svZ rZ 0 := by
    refine ⟨⟨y, Or.inl rfl, ?_, ⟨Nat.zero_le 6, Nat.zero_le 8, Nat.zero_le 10, (show 0 < 20000 by omega), rfl, rfl, rfl, rfl, rfl, fun p hp => absurd hp (Nat.not_lt_zero _), fun p hp => absurd hp (Nat.not_lt_zero _)⟩, ?_⟩, by omega, ?_, fun i hi => absurd hi (Nat.not_lt_zero _), ?_, ?_, by omega⟩
    · funext j; rw [(kp2 152 (by omega)).2.2.2.2.1]; exact m7 j
    · rw [(kp2 151 (by omega)).2.2.1]; exact m4
    · rw [(kp2 151 (by omega)).2.2.1]; exact m5
    · funext j; rw [(kp2 155 (by omega)).2.2.2.2.1]; exact m8 j
    · rw [(kp2 151 (by omega)).2.2.1]; exact m6
  have iv : Iv (rZ, 0, 0, 0, 0) 0 := ⟨⟨fun g hg => absurd hg (Nat.not_lt_zero _), fun g k hg => absurd hg (Nat.not_lt_zero _), fun g hg => absurd hg (Nat.not_lt_zero _), rfl, rfl, ⟨0, by omega, rfl⟩, fun p hp => absurd hp (Nat.not_lt_zero _)⟩, by show 0 ≤ 6002; omega⟩
  exact K _ _ _ _ _ ⟨cr, mr, iv, fun i hi => absurd hi (Nat.not_lt_zero _)⟩ (by rw [hn_nw, m1]) (by rw [hc_nw, mc, hc_nw]; omega) (by rw [hs_nw, ms, hs_nw]; omega)
end
