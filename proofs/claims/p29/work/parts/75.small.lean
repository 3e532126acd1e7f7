/-! THE LAW'S SMALL METHODS, AND WHAT IT ASKS OF THE CLASS -/
/-- v without its sign bit, modulo k -/
def lw (v : Int32) (k : Nat) : Nat := (v &&& nI 2147483647).toBitVec.toNat % k
theorem and_max (v : Int32) : ∃ m, m < 2147483648 ∧ (v &&& nI 2147483647).toBitVec.toNat = m ∧ v &&& nI 2147483647 = nI m := by
  have e0 : (nI 2147483647).toBitVec.toNat = 2147483647 := by decide
  have e1 : (v &&& nI 2147483647).toBitVec.toNat ≤ 2147483647 := by
    rw [Int32.toBitVec_and, BitVec.toNat_and, e0]
    exact Nat.and_le_right
  refine ⟨_, by omega, rfl, ?_⟩
  apply Int32.toBitVec_inj.mp
  apply BitVec.eq_of_toNat_eq
  show _ = ((nI (v &&& nI 2147483647).toBitVec.toNat).toBitVec).toNat
  generalize (v &&& nI 2147483647).toBitVec.toNat = m at *
  show m = (BitVec.ofNat 32 m).toNat
  rw [BitVec.toNat_ofNat]
  omega
theorem lw_lt {v : Int32} {k : Nat} (hk : 0 < k) : lw v k < k := Nat.mod_lt _ hk
section
variable {L : Nat} {xs : Nat → Int32} {h h2 h3 : AH} {s : SvT} {m len : Nat} {sv : Nat → SvT} {tx : Rw} {r : Rw} {H P G n : Nat}
theorem s_cell {z k : Nat} (hL : L ≤ 260) (hk : k < 16) : ∃ v, ∀ h : AH, ev L xs mdL_cell 0 [.retAddr z, .int (nI k)] [] h = some (.inl (some (.int v), h)) := by
  by_cases c : k < L
  · refine ⟨xs k, fun h => ?_⟩
    have c1 : ¬ L ≤ k := by omega
    have e1 : (Int32.ofNat L ≤ nI k) = False := by
      show (nI L ≤ nI k) = False
      rw [nI_leN (by omega) (by omega)]
      exact eq_false c1
    rw [iL_cell_0, iL_cell_1, iL_cell_2, iL_cell_3]
    simp only [e1, if_false]
    rw [iL_cell_6, iL_cell_7, iL_cell_8 (inAN c (by omega)), iL_cell_9, iL_cell_24, idxN (by omega)]
  · have e1 : (Int32.ofNat L ≤ nI k) = True := by
      show (nI L ≤ nI k) = True
      rw [nI_leN (by omega) (by omega)]
      exact eq_true (by omega)
    refine ⟨nI 7919 * (nI k + nI 3) * (nI k + nI 11), fun h => ?_⟩
    rw [iL_cell_0, iL_cell_1, iL_cell_2, iL_cell_3]
    simp only [e1, if_true]
    rw [iL_cell_12, iL_cell_15, iL_cell_16, iL_cell_17, iL_cell_18, iL_cell_19, iL_cell_20, iL_cell_22, iL_cell_23, iL_cell_24]
theorem s_low {v : Int32} {k : Nat} (h0 : 0 < k) (hk : k < 100000) : ev L xs mdL_low 0 [.int v, .int (nI k)] [] h = some (.inl (some (.int (nI (lw v k))), h)) := by
  have nz : ¬ nI k = 0 := by
    have e : (0 : Int32) = nI 0 := rfl
    rw [e, nI_eqN (by omega) (by omega)]
    omega
  rw [iL_low_0, iL_low_1, iL_low_3, iL_low_4, iL_low_5 nz, iL_low_6]
  obtain ⟨m, m1, m2, m3⟩ := and_max v
  unfold lw
  rw [m2, m3, nI_div (by omega) (by omega), nI_mul, nI_sub (Nat.div_mul_le_self m k)]
  have e : m - m / k * k = m % k := by
    have := Nat.div_add_mod m k
    rw [Nat.mul_comm] at this
    omega
  rw [e]
theorem popc_10 {s : Nat} (hs : s < 1024) : popc s = cnt s.testBit 10 := by
  rw [← popc_cnt (Nat.le_refl 10), msk_self hs]
theorem s_many {s : Nat} (hs : s < 1024) : ev L xs mdL_many 0 [.int (nI s), .null, .null] [] h = some (.inl (some (.int (nI (popc s))), h)) := by
  refine Ev_eq ?_
  simp (disch := first | with_reducible assumption | exact cat_int | exact cat_ref | exact cat_null | exact cat_ra | exact Nat.le_of_ble_eq_true rfl | (simp (disch := omega) only [hK_sI, hR_sI, hN_sI, hA_sI, hQ_sI, hL_sI, hn_sI, hK_sR, hI_sR, hN_sR, hA_sR, hQ_sR, hL_sR, hn_sR, hK_sA, hI_sA, hR_sA, hN_sA, hQ_sA, hL_sA, hn_sA, hK_sQ, hI_sQ, hR_sQ, hN_sQ, hA_sQ, hL_sQ, hn_sQ, hK_sL, hI_sL, hR_sL, hN_sL, hA_sL, hQ_sL, hn_sL, hK_cpA, hI_cpA, hR_cpA, hN_cpA, hQ_cpA, hL_cpA, hn_cpA, hK_bump, hI_bump, hR_bump, hN_bump, hA_bump, hQ_bump, hL_bump, hn_bump, hI_sI, hR_sR, hA_sA, hQ_sQ, hL_sL, hA_cpA, isS, cat_int, cat_ref, cat_null, cat_ra, wds_nil, wds_int, wds_ref, wds_long, wds_ra, nz5, nz7, nz2, idxN, inAN, if_true, if_false, b00, b11, b01, eq_self, true_or, or_true, false_or, or_false, true_and, and_true, false_and, and_false, not_true, not_false_eq_true]; done) | omega) only [iL_many_0, iL_many_1, iL_many_2, iL_many_3, ↓reduceIte, ofN, reduceCtorEq, Bool.false_eq_true, Nat.reduceAdd, Nat.reduceMul, Nat.reduceEqDiff, Nat.reduceLeDiff, Nat.reduceLT, le_nlt, ite_not, Nat.lt_irrefl, Decidable.not_not, kn1, kn0, knite, isS, getS, cat_int, cat_ref, cat_null, cat_ra, wds_nil, wds_int, wds_ref, wds_long, wds_ra, b0, b01, b00, b11, b10, if_true, if_false, ite_self, not_true, not_false_eq_true, true_or, or_true, false_or, or_false, true_and, and_true, false_and, and_false, eq_self, idxN, inAN, nI_add, nI_mul, nI_sub, nz5, nz7, nz2, nI_ltN, Nat.add_zero, Nat.zero_add, hK_sI, hR_sI, hN_sI, hA_sI, hQ_sI, hL_sI, hn_sI, hK_sR, hI_sR, hN_sR, hA_sR, hQ_sR, hL_sR, hn_sR, hK_sA, hI_sA, hR_sA, hN_sA, hQ_sA, hL_sA, hn_sA, hK_sQ, hI_sQ, hR_sQ, hN_sQ, hA_sQ, hL_sQ, hn_sQ, hK_sL, hI_sL, hR_sL, hN_sL, hA_sL, hQ_sL, hn_sL, hK_cpA, hI_cpA, hR_cpA, hN_cpA, hQ_cpA, hL_cpA, hn_cpA, hK_bump, hI_bump, hR_bump, hN_bump, hA_bump, hQ_bump, hL_bump, hn_bump, hI_sI, hR_sR, hA_sA, hQ_sQ, hL_sL, hA_cpA]
  refine Ev_loop (n := 10) (fun i Ls h' => h' = h ∧ Ls = [.int (nI s), .int (nI (cnt s.testBit i)), .int (nI i)]) ?_ ?_ (Nat.zero_le _) ⟨rfl, rfl⟩
  · rintro i Ls h' hi ⟨rfl, rfl⟩ kk
    have b : (nI s >>> (nI i &&& nI 31)) &&& nI 1 = nI (b2n (s.testBit i)) := m_in hs hi
    rw [iL_many_4]
    simp (disch := first | with_reducible assumption | exact cat_int | exact cat_ref | exact cat_null | exact cat_ra | exact Nat.le_of_ble_eq_true rfl | (simp (disch := omega) only [hK_sI, hR_sI, hN_sI, hA_sI, hQ_sI, hL_sI, hn_sI, hK_sR, hI_sR, hN_sR, hA_sR, hQ_sR, hL_sR, hn_sR, hK_sA, hI_sA, hR_sA, hN_sA, hQ_sA, hL_sA, hn_sA, hK_sQ, hI_sQ, hR_sQ, hN_sQ, hA_sQ, hL_sQ, hn_sQ, hK_sL, hI_sL, hR_sL, hN_sL, hA_sL, hQ_sL, hn_sL, hK_cpA, hI_cpA, hR_cpA, hN_cpA, hQ_cpA, hL_cpA, hn_cpA, hK_bump, hI_bump, hR_bump, hN_bump, hA_bump, hQ_bump, hL_bump, hn_bump, hI_sI, hR_sR, hA_sA, hQ_sQ, hL_sL, hA_cpA, isS, cat_int, cat_ref, cat_null, cat_ra, wds_nil, wds_int, wds_ref, wds_long, wds_ra, nz5, nz7, nz2, idxN, inAN, if_true, if_false, b00, b11, b01, eq_self, true_or, or_true, false_or, or_false, true_and, and_true, false_and, and_false, not_true, not_false_eq_true, hi, b]; done) | omega) only [iL_many_5, iL_many_7, iL_many_10, iL_many_11, iL_many_12, iL_many_13, iL_many_14, iL_many_15, iL_many_16, iL_many_17, iL_many_18, iL_many_21, ↓reduceIte, ofN, reduceCtorEq, Bool.false_eq_true, Nat.reduceAdd, Nat.reduceMul, Nat.reduceEqDiff, Nat.reduceLeDiff, Nat.reduceLT, le_nlt, ite_not, Nat.lt_irrefl, Decidable.not_not, kn1, kn0, knite, isS, getS, cat_int, cat_ref, cat_null, cat_ra, wds_nil, wds_int, wds_ref, wds_long, wds_ra, b0, b01, b00, b11, b10, if_true, if_false, ite_self, not_true, not_false_eq_true, true_or, or_true, false_or, or_false, true_and, and_true, false_and, and_false, eq_self, idxN, inAN, nI_add, nI_mul, nI_sub, nz5, nz7, nz2, nI_ltN, Nat.add_zero, Nat.zero_add, hK_sI, hR_sI, hN_sI, hA_sI, hQ_sI, hL_sI, hn_sI, hK_sR, hI_sR, hN_sR, hA_sR, hQ_sR, hL_sR, hn_sR, hK_sA, hI_sA, hR_sA, hN_sA, hQ_sA, hL_sA, hn_sA, hK_sQ, hI_sQ, hR_sQ, hN_sQ, hA_sQ, hL_sQ, hn_sQ, hK_sL, hI_sL, hR_sL, hN_sL, hA_sL, hQ_sL, hn_sL, hK_cpA, hI_cpA, hR_cpA, hN_cpA, hQ_cpA, hL_cpA, hn_cpA, hK_bump, hI_bump, hR_bump, hN_bump, hA_bump, hQ_bump, hL_bump, hn_bump, hI_sI, hR_sR, hA_sA, hQ_sQ, hL_sL, hA_cpA, hi, b]
    exact kk _ _ ⟨rfl, rfl⟩
  · rintro Ls h' ⟨rfl, rfl⟩
    rw [iL_many_4]
    simp (disch := first | with_reducible assumption | exact cat_int | exact cat_ref | exact cat_null | exact cat_ra | exact Nat.le_of_ble_eq_true rfl | (simp (disch := omega) only [hK_sI, hR_sI, hN_sI, hA_sI, hQ_sI, hL_sI, hn_sI, hK_sR, hI_sR, hN_sR, hA_sR, hQ_sR, hL_sR, hn_sR, hK_sA, hI_sA, hR_sA, hN_sA, hQ_sA, hL_sA, hn_sA, hK_sQ, hI_sQ, hR_sQ, hN_sQ, hA_sQ, hL_sQ, hn_sQ, hK_sL, hI_sL, hR_sL, hN_sL, hA_sL, hQ_sL, hn_sL, hK_cpA, hI_cpA, hR_cpA, hN_cpA, hQ_cpA, hL_cpA, hn_cpA, hK_bump, hI_bump, hR_bump, hN_bump, hA_bump, hQ_bump, hL_bump, hn_bump, hI_sI, hR_sR, hA_sA, hQ_sQ, hL_sL, hA_cpA, isS, cat_int, cat_ref, cat_null, cat_ra, wds_nil, wds_int, wds_ref, wds_long, wds_ra, nz5, nz7, nz2, idxN, inAN, if_true, if_false, b00, b11, b01, eq_self, true_or, or_true, false_or, or_false, true_and, and_true, false_and, and_false, not_true, not_false_eq_true, Ev_some]; done) | omega) only [iL_many_5, iL_many_7, iL_many_24, iL_many_25, ↓reduceIte, ofN, reduceCtorEq, Bool.false_eq_true, Nat.reduceAdd, Nat.reduceMul, Nat.reduceEqDiff, Nat.reduceLeDiff, Nat.reduceLT, le_nlt, ite_not, Nat.lt_irrefl, Decidable.not_not, kn1, kn0, knite, isS, getS, cat_int, cat_ref, cat_null, cat_ra, wds_nil, wds_int, wds_ref, wds_long, wds_ra, b0, b01, b00, b11, b10, if_true, if_false, ite_self, not_true, not_false_eq_true, true_or, or_true, false_or, or_false, true_and, and_true, false_and, and_false, eq_self, idxN, inAN, nI_add, nI_mul, nI_sub, nz5, nz7, nz2, nI_ltN, Nat.add_zero, Nat.zero_add, hK_sI, hR_sI, hN_sI, hA_sI, hQ_sI, hL_sI, hn_sI, hK_sR, hI_sR, hN_sR, hA_sR, hQ_sR, hL_sR, hn_sR, hK_sA, hI_sA, hR_sA, hN_sA, hQ_sA, hL_sA, hn_sA, hK_sQ, hI_sQ, hR_sQ, hN_sQ, hA_sQ, hL_sQ, hn_sQ, hK_sL, hI_sL, hR_sL, hN_sL, hA_sL, hQ_sL, hn_sL, hK_cpA, hI_cpA, hR_cpA, hN_cpA, hQ_cpA, hL_cpA, hn_cpA, hK_bump, hI_bump, hR_bump, hN_bump, hA_bump, hQ_bump, hL_bump, hn_bump, hI_sI, hR_sR, hA_sA, hQ_sQ, hL_sL, hA_cpA, Ev_some]
    rw [popc_10 hs]
theorem a_v0 (c : CR h (r, H, P, G, n) m sv tx len) : ev L xs mdX6_value 0 [.ref 0, .int (nI 0)] [] h = some (.inl (some (.int (nI H)), h)) := a_value0 c (w := 0) (by omega)
theorem a_v1 (c : CR h (r, H, P, G, n) m sv tx len) : ev L xs mdX6_value 0 [.ref 0, .int (nI 1)] [] h = some (.inl (some (.int (nI P)), h)) := a_value0 c (w := 1) (by omega)
theorem a_v2 (c : CR h (r, H, P, G, n) m sv tx len) : ev L xs mdX6_value 0 [.ref 0, .int (nI 2)] [] h = some (.inl (some (.int (nI G)), h)) := a_value0 c (w := 2) (by omega)
theorem a_v3 (c : CR h (r, H, P, G, n) m sv tx len) : ev L xs mdX6_value 0 [.ref 0, .int (nI 3)] [] h = some (.inl (some (.int (nI (n / 2))), h)) := a_value0 c (w := 3) (by omega)
theorem a_v4 (c : CR h (r, H, P, G, n) m sv tx len) : ev L xs mdX6_value 0 [.ref 0, .int (nI 4)] [] h = some (.inl (some (.int (nI (n % 2))), h)) := a_value0 c (w := 4) (by omega)
theorem a_v5 (c : CR h (r, H, P, G, n) m sv tx len) : ev L xs mdX6_value 0 [.ref 0, .int (nI 5)] [] h = some (.inl (some (.int (r 5)), h)) := a_value0 c (w := 5) (by omega)
theorem a_v6 (c : CR h (r, H, P, G, n) m sv tx len) : ev L xs mdX6_value 0 [.ref 0, .int (nI 6)] [] h = some (.inl (some (.int (r 6)), h)) := a_value0 c (w := 6) (by omega)
theorem a_v7 (c : CR h (r, H, P, G, n) m sv tx len) : ev L xs mdX6_value 0 [.ref 0, .int (nI 7)] [] h = some (.inl (some (.int (sumP r 23 P)), h)) := a_value0 c (w := 7) (by omega)
theorem a_v8 (c : CR h (r, H, P, G, n) m sv tx len) : ev L xs mdX6_value 0 [.ref 0, .int (nI 8)] [] h = some (.inl (some (.int (sumP r 24 P)), h)) := a_value0 c (w := 8) (by omega)
theorem a_v9 (c : CR h (r, H, P, G, n) m sv tx len) : ev L xs mdX6_value 0 [.ref 0, .int (nI 9)] [] h = some (.inl (some (.int (sumP r 98 G)), h)) := a_value0 c (w := 9) (by omega)
theorem a_v10 (c : CR h (r, H, P, G, n) m sv tx len) : ev L xs mdX6_value 0 [.ref 0, .int (nI 10)] [] h = some (.inl (some (.int (nI G - nI (popc (msk (wl r (nI (n / 2))) G)))), h)) := a_value0 c (w := 10) (by omega)
theorem a_p2 {p : Nat} (c : CR h (r, H, P, G, n) m sv tx len) (hu : uniq r G) (hp : p < P) : ev L xs mdX6_post 0 [.ref 0, .int (nI p), .int (nI 2)] [] h = some (.inl (some (.int (ownerF r (nI p) G)), h)) := a_post0 c hu hp (w := 2) (by omega)
theorem a_p3 {p : Nat} (c : CR h (r, H, P, G, n) m sv tx len) (hu : uniq r G) (hp : p < P) : ev L xs mdX6_post 0 [.ref 0, .int (nI p), .int (nI 3)] [] h = some (.inl (some (.int (r (23 + 9 * p))), h)) := a_post0 c hu hp (w := 3) (by omega)
theorem a_p4 {p : Nat} (c : CR h (r, H, P, G, n) m sv tx len) (hu : uniq r G) (hp : p < P) : ev L xs mdX6_post 0 [.ref 0, .int (nI p), .int (nI 4)] [] h = some (.inl (some (.int (r (24 + 9 * p))), h)) := a_post0 c hu hp (w := 4) (by omega)
theorem a_p5 {p : Nat} (c : CR h (r, H, P, G, n) m sv tx len) (hu : uniq r G) (hp : p < P) : ev L xs mdX6_post 0 [.ref 0, .int (nI p), .int (nI 5)] [] h = some (.inl (some (.int (r (25 + 9 * p))), h)) := a_post0 c hu hp (w := 5) (by omega)
theorem a_p7 {p : Nat} (c : CR h (r, H, P, G, n) m sv tx len) (hu : uniq r G) (hp : p < P) : ev L xs mdX6_post 0 [.ref 0, .int (nI p), .int (nI 7)] [] h = some (.inl (some (.int (r (28 + 9 * p))), h)) := a_post0 c hu hp (w := 7) (by omega)
theorem a_p8 {p : Nat} (c : CR h (r, H, P, G, n) m sv tx len) (hu : uniq r G) (hp : p < P) : ev L xs mdX6_post 0 [.ref 0, .int (nI p), .int (nI 8)] [] h = some (.inl (some (.int (r (29 + 9 * p))), h)) := a_post0 c hu hp (w := 8) (by omega)
theorem a_g2 {g : Nat} (c : CR h (r, H, P, G, n) m sv tx len) (hg : g < G) : ev L xs mdX6_guard 0 [.ref 0, .int (nI g), .int (nI 2)] [] h = some (.inl (some (.int (gRow r g 2)), h)) := a_guard0 c hg (w := 2) (by omega)
theorem a_g3 {g : Nat} (c : CR h (r, H, P, G, n) m sv tx len) (hg : g < G) : ev L xs mdX6_guard 0 [.ref 0, .int (nI g), .int (nI 3)] [] h = some (.inl (some (.int (gRow r g 3)), h)) := a_guard0 c hg (w := 3) (by omega)
theorem a_g4 {g : Nat} (c : CR h (r, H, P, G, n) m sv tx len) (hg : g < G) : ev L xs mdX6_guard 0 [.ref 0, .int (nI g), .int (nI 4)] [] h = some (.inl (some (.int (gRow r g 4)), h)) := a_guard0 c hg (w := 4) (by omega)
theorem a_g5 {g : Nat} (c : CR h (r, H, P, G, n) m sv tx len) (hg : g < G) : ev L xs mdX6_guard 0 [.ref 0, .int (nI g), .int (nI 5)] [] h = some (.inl (some (.int (gRow r g 5)), h)) := a_guard0 c hg (w := 5) (by omega)
theorem a_g6 {g : Nat} (c : CR h (r, H, P, G, n) m sv tx len) (hg : g < G) : ev L xs mdX6_guard 0 [.ref 0, .int (nI g), .int (nI 6)] [] h = some (.inl (some (.int (if nI (n / 2) < gRow r g 6 then nI 1 else nI 0)), h)) := a_guard0 c hg (w := 6) (by omega)
theorem a_g7 {g : Nat} (c : CR h (r, H, P, G, n) m sv tx len) (hg : g < G) : ev L xs mdX6_guard 0 [.ref 0, .int (nI g), .int (nI 7)] [] h = some (.inl (some (.int (gRow r g 6)), h)) := a_guard0 c hg (w := 7) (by omega)
theorem a_g8 {g : Nat} (c : CR h (r, H, P, G, n) m sv tx len) (hg : g < G) : ev L xs mdX6_guard 0 [.ref 0, .int (nI g), .int (nI 8)] [] h = some (.inl (some (.int (gRow r g 7)), h)) := a_guard0 c hg (w := 8) (by omega)
theorem a_g9 {g : Nat} (c : CR h (r, H, P, G, n) m sv tx len) (hg : g < G) : ev L xs mdX6_guard 0 [.ref 0, .int (nI g), .int (nI 9)] [] h = some (.inl (some (.int (gRow r g 8)), h)) := a_guard0 c hg (w := 9) (by omega)
theorem a_g10 {g : Nat} (c : CR h (r, H, P, G, n) m sv tx len) (hg : g < G) : ev L xs mdX6_guard 0 [.ref 0, .int (nI g), .int (nI 10)] [] h = some (.inl (some (.int (if gRow r g 3 = nI 5 then -1 else nI 20 - gRow r g 4)), h)) := a_guard0 c hg (w := 10) (by omega)
end
