/-! THE LAW BEGINS: the object, and the row of the latest complaints -/
def FrL (h h' : AH) : Prop := hn h' = hn h ∧ hc h' = hc h ∧ hs h' = hs h
section
variable {L : Nat} {xs : Nat → Int32} {h h0 h1 h2 h3 : AH} {a k l s i : Nat}
/-- the heap at the start -/
def hE : AH := (fun _ => 0, fun _ _ => 0, fun _ _ => none, fun _ => 0, fun _ _ => 0, fun _ _ => none, fun _ _ => 0, 0, 0, 0)
def rZ : Rw := fun _ => 0
def svZ : Nat → SvT := fun _ => (rZ, 0, 0, 0, 0)
theorem law_init {z : Nat} {Q : Res → Prop} {v3 v4 v5 v6 v7 v8 v9 v10 v11 v12 v13 v14 : Value} (K : ∀ h', CR h' (rZ, 0, 0, 0, 0) 0 svZ rZ 0 → (∀ j, hA h' 151 j = 0) → hc h' ≤ 200 → hs h' ≤ 5000 → Ev (ev L xs mdL_law 13 [.retAddr z, .ref 0, .ref 151, v3, v4, v5, v6, v7, v8, v9, v10, v11, v12, v13, v14] [] h') Q) : Ev (ev L xs mdL_law 0 [.retAddr z, .null, .null, v3, v4, v5, v6, v7, v8, v9, v10, v11, v12, v13, v14] [] hE) Q := by
  have n0 : hn hE = 0 := rfl
  have c0 : hc hE = 0 := rfl
  have s0 : hs hE = 0 := rfl
  simp (disch := first | with_reducible assumption | exact cat_int | exact cat_ref | exact cat_null | exact cat_ra | exact Nat.le_of_ble_eq_true rfl | (simp (disch := omega) only [hK_sI, hR_sI, hN_sI, hA_sI, hQ_sI, hL_sI, hn_sI, hK_sR, hI_sR, hN_sR, hA_sR, hQ_sR, hL_sR, hn_sR, hK_sA, hI_sA, hR_sA, hN_sA, hQ_sA, hL_sA, hn_sA, hK_sQ, hI_sQ, hR_sQ, hN_sQ, hA_sQ, hL_sQ, hn_sQ, hK_sL, hI_sL, hR_sL, hN_sL, hA_sL, hQ_sL, hn_sL, hK_cpA, hI_cpA, hR_cpA, hN_cpA, hQ_cpA, hL_cpA, hn_cpA, hK_bump, hI_bump, hR_bump, hN_bump, hA_bump, hQ_bump, hL_bump, hn_bump, hI_sI, hR_sR, hA_sA, hQ_sQ, hL_sL, hA_cpA, isS, cat_int, cat_ref, cat_null, cat_ra, wds_nil, wds_int, wds_ref, wds_long, wds_ra, nz5, nz7, nz2, idxN, inAN, if_true, if_false, b00, b11, b01, eq_self, true_or, or_true, false_or, or_false, true_and, and_true, false_and, and_false, not_true, not_false_eq_true, n0, hK_nw, hn_nw]; done) | omega) only [iL_law_0, iL_law_3, iL_law_3i, iL_law_4, ↓reduceIte, ofN, reduceCtorEq, Bool.false_eq_true, Nat.reduceAdd, Nat.reduceMul, Nat.reduceEqDiff, Nat.reduceLeDiff, Nat.reduceLT, le_nlt, ite_not, Nat.lt_irrefl, Decidable.not_not, kn1, kn0, knite, isS, getS, cat_int, cat_ref, cat_null, cat_ra, wds_nil, wds_int, wds_ref, wds_long, wds_ra, b0, b01, b00, b11, b10, if_true, if_false, ite_self, not_true, not_false_eq_true, true_or, or_true, false_or, or_false, true_and, and_true, false_and, and_false, eq_self, idxN, inAN, nI_add, nI_mul, nI_sub, nz5, nz7, nz2, nI_ltN, Nat.add_zero, Nat.zero_add, hK_sI, hR_sI, hN_sI, hA_sI, hQ_sI, hL_sI, hn_sI, hK_sR, hI_sR, hN_sR, hA_sR, hQ_sR, hL_sR, hn_sR, hK_sA, hI_sA, hR_sA, hN_sA, hQ_sA, hL_sA, hn_sA, hK_sQ, hI_sQ, hR_sQ, hN_sQ, hA_sQ, hL_sQ, hn_sQ, hK_sL, hI_sL, hR_sL, hN_sL, hA_sL, hQ_sL, hn_sL, hK_cpA, hI_cpA, hR_cpA, hN_cpA, hQ_cpA, hL_cpA, hn_cpA, hK_bump, hI_bump, hR_bump, hN_bump, hA_bump, hQ_bump, hL_bump, hn_bump, hI_sI, hR_sR, hA_sA, hQ_sQ, hL_sL, hA_cpA, n0, hK_nw, hn_nw]
  refine Ev_call (s_class (by rw [hn_nw, n0]) (by rw [hK_nw, if_pos n0.symm]) (fun F => by rw [hI_nw, if_pos n0.symm]) (by rw [hc_nw, c0]; omega) (by rw [hs_nw, s0]; omega)) ?_
  rintro _ ⟨h1, rfl, n1, c1, s1, cf, sb1, sb2, sv, e99, e17, e55⟩
  have n1' : hn h1 = 151 := n1
  have k8 : (nI 8).toNatClampNeg = 8 := rfl
  simp (disch := first | with_reducible assumption | exact cat_int | exact cat_ref | exact cat_null | exact cat_ra | exact Nat.le_of_ble_eq_true rfl | (simp (disch := omega) only [hK_sI, hR_sI, hN_sI, hA_sI, hQ_sI, hL_sI, hn_sI, hK_sR, hI_sR, hN_sR, hA_sR, hQ_sR, hL_sR, hn_sR, hK_sA, hI_sA, hR_sA, hN_sA, hQ_sA, hL_sA, hn_sA, hK_sQ, hI_sQ, hR_sQ, hN_sQ, hA_sQ, hL_sQ, hn_sQ, hK_sL, hI_sL, hR_sL, hN_sL, hA_sL, hQ_sL, hn_sL, hK_cpA, hI_cpA, hR_cpA, hN_cpA, hQ_cpA, hL_cpA, hn_cpA, hK_bump, hI_bump, hR_bump, hN_bump, hA_bump, hQ_bump, hL_bump, hn_bump, hI_sI, hR_sR, hA_sA, hQ_sQ, hL_sL, hA_cpA, isS, cat_int, cat_ref, cat_null, cat_ra, wds_nil, wds_int, wds_ref, wds_long, wds_ra, nz5, nz7, nz2, idxN, inAN, if_true, if_false, b00, b11, b01, eq_self, true_or, or_true, false_or, or_false, true_and, and_true, false_and, and_false, not_true, not_false_eq_true, n1', le0, le1, k8]; done) | omega) only [iL_law_7, iL_law_8, iL_law_10, iL_law_12, ↓reduceIte, ofN, reduceCtorEq, Bool.false_eq_true, Nat.reduceAdd, Nat.reduceMul, Nat.reduceEqDiff, Nat.reduceLeDiff, Nat.reduceLT, le_nlt, ite_not, Nat.lt_irrefl, Decidable.not_not, kn1, kn0, knite, isS, getS, cat_int, cat_ref, cat_null, cat_ra, wds_nil, wds_int, wds_ref, wds_long, wds_ra, b0, b01, b00, b11, b10, if_true, if_false, ite_self, not_true, not_false_eq_true, true_or, or_true, false_or, or_false, true_and, and_true, false_and, and_false, eq_self, idxN, inAN, nI_add, nI_mul, nI_sub, nz5, nz7, nz2, nI_ltN, Nat.add_zero, Nat.zero_add, hK_sI, hR_sI, hN_sI, hA_sI, hQ_sI, hL_sI, hn_sI, hK_sR, hI_sR, hN_sR, hA_sR, hQ_sR, hL_sR, hn_sR, hK_sA, hI_sA, hR_sA, hN_sA, hQ_sA, hL_sA, hn_sA, hK_sQ, hI_sQ, hR_sQ, hN_sQ, hA_sQ, hL_sQ, hn_sQ, hK_sL, hI_sL, hR_sL, hN_sL, hA_sL, hQ_sL, hn_sL, hK_cpA, hI_cpA, hR_cpA, hN_cpA, hQ_cpA, hL_cpA, hn_cpA, hK_bump, hI_bump, hR_bump, hN_bump, hA_bump, hQ_bump, hL_bump, hn_bump, hI_sI, hR_sR, hA_sA, hQ_sQ, hL_sL, hA_cpA, n1', le0, le1, k8]
  have kp1 : Kp (fun q => q < 151) h1 (nw h1 8 8 8) := Kp.nw Kp.rf (by rw [n1']; omega)
  have cf9 : CF (nw h1 8 8 8) := cf.kp (kp1.mono (fun q hq => by unfold inCF at hq; omega))
  have k151 : hK (nw h1 8 8 8) 151 = 8 := by rw [hK_nw, if_pos n1'.symm]
  have n151 : hN (nw h1 8 8 8) 151 = 8 := by rw [hN_nw, if_pos n1'.symm]
  have sv0 := sv 0 (by omega)
  have sv1 := sv 1 (by omega)
  have sv2 := sv 2 (by omega)
  have sv3 := sv 3 (by omega)
  have b1 := sb1.kp kp1 (fun q h1 h2 => by omega)
  have b2 := sb2.kp kp1 (fun q h1 h2 => by omega)
  have b3 := sv0.2.kp kp1 (fun q h1 h2 => by omega)
  have b4 := sv1.2.kp kp1 (fun q h1 h2 => by omega)
  have b5 := sv2.2.kp kp1 (fun q h1 h2 => by omega)
  have b6 := sv3.2.kp kp1 (fun q h1 h2 => by omega)
  have q47 := fun j => (kp1 47 (by omega)).2.2.2.2.2 j
  have y : LayF (nw h1 8 8 8) := by
    obtain ⟨e0, e1, e2, e3, e4, e5, e6, e7, e8, e9, e10, e11, e12, e13, e14, e15, e16, e17, e18, e19, e20, e21, e22, e23, e24, e25, e26, e27, e28, e29, e30, e31, e32, e33, e34, e35⟩ := cf9
    exact ⟨e0, e1, e2, e3, e4, e5, e6, e7, e8, e9, e10, e11, e12, k151, e13, e14, e15, e16, e17, e18, e19, e20, e21, n151, e22, e23, e24, e25, e26, e27, e28, e29, e30, e31, e32, e33, e34, e35⟩
  have cr : CR (nw h1 8 8 8) (rZ, 0, 0, 0, 0) 0 svZ rZ 0 := by
    refine ⟨y, fun a ha => ?_, ⟨Nat.zero_le 6, Nat.zero_le 8, Nat.zero_le 10, (show 0 < 20000 by omega), ?_, ?_, ?_, ?_, ?_, ?_, fun i hi => absurd hi (Nat.not_lt_zero _), fun i hi => absurd hi (Nat.not_lt_zero _), fun i hi => absurd hi (Nat.not_lt_zero _)⟩, by omega, ?_, ⟨fun i => 59 + 23 * i, ⟨fun i hi => ⟨?_, ?_⟩, fun i j hi hj e => by have e : 59 + 23 * i = 59 + 23 * j := e; omega⟩, fun i hi => absurd hi (Nat.not_lt_zero _)⟩, ?_, ?_, by omega⟩
    · rcases ha with e | e | e | e | e | e <;> subst e
      · exact b1.1
      · exact b2.1
      · exact b3.1
      · exact b4.1
      · exact b5.1
      · exact b6.1
    · exact b1.2 _ _ (by omega) (by omega)
    · exact b1.2 _ _ (by omega) (by omega)
    · exact b1.2 _ _ (by omega) (by omega)
    · exact b1.2 _ _ (by omega) (by omega)
    · exact b1.2 _ _ (by omega) (by omega)
    · exact b1.2 _ _ (by omega) (by omega)
    · rw [(kp1 0 (by omega)).2.2.1]; exact e99
    · rw [q47]; exact (sv i hi).1
    · show isVb (59 + 23 * i)
      unfold isVb; omega
    · funext j; rw [(kp1 55 (by omega)).2.2.2.2.1]; exact e55 j
    · rw [(kp1 54 (by omega)).2.2.1]; exact e17
  exact K _ cr (fun j => by rw [hA_nw, if_pos n1'.symm]) (by rw [hc_nw]; omega) (by rw [hs_nw]; omega)
end
