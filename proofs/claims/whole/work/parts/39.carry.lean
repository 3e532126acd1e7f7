/-! THE ORDERS ARE CARRIED OUT -/
theorem i32_rng {v : Int32} {a b : Nat} (ha : a < 2 ^ 31) (hb : b < 2 ^ 31) (h0 : nI a ≤ v) (h1 : v ≤ nI b) : ∃ d, a ≤ d ∧ d ≤ b ∧ v = nI d := by
  have e1 : (nI a).toInt ≤ v.toInt := Int32.le_iff_toInt_le.mp h0
  have e2 : v.toInt ≤ (nI b).toInt := Int32.le_iff_toInt_le.mp h1
  rw [nI_toInt ha] at e1
  rw [nI_toInt hb] at e2
  refine ⟨v.toInt.toNat, by omega, by omega, ?_⟩
  rw [← Int32.toInt_inj, nI_toInt (by omega)]
  omega
theorem dig_rng {m : Nat} {x : Int32} (hm : m < 100) (h : dig (nI m) x = true) : ∃ d, d ≤ m ∧ x - nI 48 = nI d := by
  unfold dig at h
  rw [decide_eq_true_eq, nI_add] at h
  obtain ⟨d, d1, d2, e⟩ := i32_rng (by omega) (by omega) h.1 h.2
  exact ⟨d - 48, by omega, by rw [e, nI_sub (by omega)]⟩
theorem rd_rng {t : Rw} {len q : Nat} (h : rdE t len q = none) : ∃ d, 1 ≤ d ∧ d ≤ 60 ∧ rdV t len q = nI d := by
  unfold rdE at h
  split at h
  · split at h
    · cases h
    · split at h
      · rename_i c
        unfold ok60 at c
        rw [decide_eq_true_eq] at c
        exact i32_rng (by omega) (by omega) c.1 c.2
      · cases h
  · cases h
section
variable {t : Rw} {len q : Nat}
theorem ord_kd (h : ordE t len q = none) (k : bt t len q = nI 100) : ∃ d, 1 ≤ d ∧ d ≤ 60 ∧ ordD t len q = nI d := by
  unfold ordE at h
  rw [if_pos k] at h
  have e : ordD t len q = rdV t len (q + 1) := if_pos k
  rw [e]
  cases hE : rdE t len (q + 1) with
  | some x => rw [hE] at h; cases h
  | none => exact rd_rng hE
theorem ord_ks (h : ordE t len q = none) (k0 : ¬ bt t len q = nI 100) (k : bt t len q = nI 115) : ∃ d g, 1 ≤ d ∧ d ≤ 60 ∧ g ≤ 9 ∧ ordD t len q = nI d ∧ ordT t len q = nI g := by
  unfold ordE at h
  rw [if_neg k0, if_pos k] at h
  have e : ordD t len q = rdV t len (q + 3) := by unfold ordD; rw [if_neg k0, if_pos k]
  have e2 : ordT t len q = bt t len (q + 1) - nI 48 := if_neg k0
  rw [e, e2]
  split at h
  · rename_i c
    obtain ⟨g, g1, g2⟩ := dig_rng (by omega) c
    split at h
    · cases hE : rdE t len (q + 3) with
      | some x => rw [hE] at h; cases h
      | none =>
        obtain ⟨d, d1, d2, d3⟩ := rd_rng hE
        exact ⟨d, g, d1, d2, g1, d3, g2⟩
    · cases h
  · cases h
theorem ord_kc (h : ordE t len q = none) (k0 : ¬ bt t len q = nI 100) (k : ¬ bt t len q = nI 115) : bt t len q = nI 99 ∧ ∃ g, g ≤ 7 ∧ ordT t len q = nI g := by
  unfold ordE at h
  rw [if_neg k0, if_neg k] at h
  have e2 : ordT t len q = bt t len (q + 1) - nI 48 := if_neg k0
  rw [e2]
  split at h
  · rename_i c0
    split at h
    · rename_i c
      exact ⟨c0, dig_rng (by omega) c⟩
    · cases h
  · cases h
end
theorem inR_iff {g G : Nat} (hg : g < 1000) (hG : G < 1000) : inR (nI g) G = decide (g < G) := by
  unfold inR
  by_cases z : G = 0
  · subst z
    have e : nI 0 - nI 1 = -1 := by decide
    have : ¬ nI g ≤ -1 := by
      intro h
      have h2 : nI 0 ≤ nI g := by rw [nI_leN (by omega) (by omega)]; omega
      exact absurd (Int32.le_trans h2 h) (by decide)
    simp [e, this]
  · rw [nI_sub (by omega)]
    refine decide_eq_decide.mpr ?_
    rw [nI_leN (by omega) (by omega), nI_leN (by omega) (by omega)]
    omega
/-- one order, carried out on a state -/
def exo (t : Rw) (len q : Nat) (s : SvT) : Option SvT :=
  if bt t len q = nI 100 then
    (if s.2.2.2.2 / 2 + (ordD t len q).toNatClampNeg - 1 ≤ 3000 then some (goN s.1 s.2.1 s.2.2.1 s.2.2.2.1 s.2.2.2.2 (2 * (s.2.2.2.2 / 2 + (ordD t len q).toNatClampNeg) - s.2.2.2.2), s.2.1, s.2.2.1, s.2.2.2.1, 2 * (s.2.2.2.2 / 2 + (ordD t len q).toNatClampNeg)) else none)
  else if bt t len q = nI 115 then
    (if (ordT t len q).toNatClampNeg < s.2.2.2.1 then some (pu s.1 (99 + 9 * (ordT t len q).toNatClampNeg) (nI (s.2.2.2.2 / 2) + ordD t len q), s.2) else none)
  else if (ordT t len q).toNatClampNeg < s.2.2.1 ∧ cmpl (s.1 (25 + 9 * (ordT t len q).toNatClampNeg)) (s.1 (27 + 9 * (ordT t len q).toNatClampNeg)) (nI s.2.2.2.2) = true then some (complR s.1 (ordT t len q).toNatClampNeg s.2.2.2.2, s.2) else none
/-- the state behind the first k orders -/
def exK (t : Rw) (len : Nat) (s : SvT) : Nat → SvT
  | 0 => s
  | k + 1 => (exo t len (posK t len k) (exK t len s k)).getD (exK t len s k)
section
variable {t : Rw} {len q d g p H P G n : Nat} {r : Rw}
theorem exo_d (k : bt t len q = nI 100) (e : ordD t len q = nI d) (hd : d ≤ 60) : exo t len q (r, H, P, G, n) = if n / 2 + d - 1 ≤ 3000 then some (goN r H P G n (2 * (n / 2 + d) - n), H, P, G, 2 * (n / 2 + d)) else none := by
  unfold exo
  rw [if_pos k, e, idxN (by omega)]
theorem exo_s (k0 : ¬ bt t len q = nI 100) (k : bt t len q = nI 115) (e : ordD t len q = nI d) (e2 : ordT t len q = nI g) (hg : g ≤ 9) : exo t len q (r, H, P, G, n) = if g < G then some (pu r (99 + 9 * g) (nI (n / 2) + nI d), H, P, G, n) else none := by
  unfold exo
  rw [if_neg k0, if_pos k, e, e2, idxN (by omega)]
theorem exo_c (k0 : ¬ bt t len q = nI 100) (k : ¬ bt t len q = nI 115) (e2 : ordT t len q = nI p) (hg : p ≤ 7) : exo t len q (r, H, P, G, n) = if p < P ∧ cmpl (r (25 + 9 * p)) (r (27 + 9 * p)) (nI n) = true then some (complR r p n, H, P, G, n) else none := by
  unfold exo
  rw [if_neg k0, if_neg k, e2, idxN (by omega)]
end
section
variable {L : Nat} {xs : Nat → Int32} {h h2 h3 : AH} {s : SvT} {m len : Nat} {sv : Nat → SvT} {tx : Rw} {r : Rw} {H P G n i q : Nat}
theorem day_x {d : Nat} (hn9 : n < 20000) (d1 : 1 ≤ d) (d2 : d ≤ 60) : (nI (n / 2) + nI d - nI 1 ≤ nI 3000) = (n / 2 + d - 1 ≤ 3000) := by
  rw [nI_add, nI_sub (by omega), nI_leN (by omega) (by omega)]
theorem car_n (c : CR h (r, H, P, G, n) m sv tx len) (hi : i < 30) (e : ordE tx len q = none) (a1 : hA h 56 i = bt tx len q) (a2 : hA h 57 i = ordT tx len q) (a3 : hA h 58 i = ordD tx len q) (ex : exo tx len q (r, H, P, G, n) = none) : ev L xs mdX6_carriesOut 0 [.ref 0, .int (nI i), .null, .null] [] h = some (.inl (some (.int (nI 0)), h)) := by
  have y := c.y
  have R := c.R
  have hn9 := R.nn
  have G10 := R.G10
  have P8 := R.P8
  by_cases k1 : bt tx len q = nI 100
  · obtain ⟨d, d1, d2, ed⟩ := ord_kd e k1
    rw [exo_d k1 ed d2] at ex
    have cn : ¬ n / 2 + d - 1 ≤ 3000 := by
      intro z
      rw [if_pos z] at ex
      cases ex
    have al := s_allowDays (L := L) (xs := xs) (x := nI d) c.l1 R
    rw [if_neg (by rw [day_x hn9 d1 d2]; exact cn)] at al
    simp (disch := first | with_reducible assumption | exact cat_int | exact cat_ref | exact cat_null | exact cat_ra | exact Nat.le_of_ble_eq_true rfl | (simp (disch := omega) only [hK_sI, hR_sI, hN_sI, hA_sI, hQ_sI, hL_sI, hn_sI, hK_sR, hI_sR, hN_sR, hA_sR, hQ_sR, hL_sR, hn_sR, hK_sA, hI_sA, hR_sA, hN_sA, hQ_sA, hL_sA, hn_sA, hK_sQ, hI_sQ, hR_sQ, hN_sQ, hA_sQ, hL_sQ, hn_sQ, hK_sL, hI_sL, hR_sL, hN_sL, hA_sL, hQ_sL, hn_sL, hK_cpA, hI_cpA, hR_cpA, hN_cpA, hQ_cpA, hL_cpA, hn_cpA, hK_bump, hI_bump, hR_bump, hN_bump, hA_bump, hQ_bump, hL_bump, hn_bump, hI_sI, hR_sR, hA_sA, hQ_sQ, hL_sL, hA_cpA, isS, cat_int, cat_ref, cat_null, cat_ra, wds_nil, wds_int, wds_ref, wds_long, wds_ra, nz5, nz7, nz2, idxN, inAN, if_true, if_false, b00, b11, b01, eq_self, true_or, or_true, false_or, or_false, true_and, and_true, false_and, and_false, not_true, not_false_eq_true, Y_k0 y, Y_r96 y, Y_r102 y, Y_k54 y, Y_r18 y, Y_r19 y, Y_r20 y, Y_k56 y, Y_n56 y, Y_k57 y, Y_n57 y, Y_k58 y, Y_n58 y, LS_k c.l1, a1, a2, a3, k1, ed, al]; done) | omega) only [iX6_carriesOut_0, iX6_carriesOut_1, iX6_carriesOut_4, iX6_carriesOut_7, iX6_carriesOut_8, iX6_carriesOut_9, iX6_carriesOut_10, iX6_carriesOut_11, iX6_carriesOut_14, iX6_carriesOut_17, iX6_carriesOut_18, iX6_carriesOut_19, iX6_carriesOut_20, iX6_carriesOut_21, iX6_carriesOut_24, iX6_carriesOut_27, iX6_carriesOut_28, iX6_carriesOut_29_100, iX6_carriesOut_29_115, iX6_carriesOut_29_d, iX6_carriesOut_56, iX6_carriesOut_57, iX6_carriesOut_60, iX6_carriesOut_61, iX6_carriesOut_64, iX6_carriesOut_67, iX6_carriesOut_68, ↓reduceIte, ofN, reduceCtorEq, Bool.false_eq_true, Nat.reduceAdd, Nat.reduceMul, Nat.reduceEqDiff, Nat.reduceLeDiff, Nat.reduceLT, le_nlt, ite_not, Nat.lt_irrefl, Decidable.not_not, kn1, kn0, knite, isS, getS, cat_int, cat_ref, cat_null, cat_ra, wds_nil, wds_int, wds_ref, wds_long, wds_ra, b0, b01, b00, b11, b10, if_true, if_false, ite_self, not_true, not_false_eq_true, true_or, or_true, false_or, or_false, true_and, and_true, false_and, and_false, eq_self, idxN, inAN, nI_add, nI_mul, nI_sub, nz5, nz7, nz2, nI_ltN, Nat.add_zero, Nat.zero_add, hK_sI, hR_sI, hN_sI, hA_sI, hQ_sI, hL_sI, hn_sI, hK_sR, hI_sR, hN_sR, hA_sR, hQ_sR, hL_sR, hn_sR, hK_sA, hI_sA, hR_sA, hN_sA, hQ_sA, hL_sA, hn_sA, hK_sQ, hI_sQ, hR_sQ, hN_sQ, hA_sQ, hL_sQ, hn_sQ, hK_sL, hI_sL, hR_sL, hN_sL, hA_sL, hQ_sL, hn_sL, hK_cpA, hI_cpA, hR_cpA, hN_cpA, hQ_cpA, hL_cpA, hn_cpA, hK_bump, hI_bump, hR_bump, hN_bump, hA_bump, hQ_bump, hL_bump, hn_bump, hI_sI, hR_sR, hA_sA, hQ_sQ, hL_sL, hA_cpA, Y_k0 y, Y_r96 y, Y_r102 y, Y_k54 y, Y_r18 y, Y_r19 y, Y_r20 y, Y_k56 y, Y_n56 y, Y_k57 y, Y_n57 y, Y_k58 y, Y_n58 y, LS_k c.l1, a1, a2, a3, k1, ed, al]
  · by_cases k2 : bt tx len q = nI 115
    · obtain ⟨d, g, d1, d2, g1, ed, eg⟩ := ord_ks e k1 k2
      rw [exo_s k1 k2 ed eg g1] at ex
      have cn : ¬ g < G := by
        intro z
        rw [if_pos z] at ex
        cases ex
      have al := s_hasGuard (L := L) (xs := xs) (x := nI g) c.l1 R
      rw [inR_iff (by omega) (by omega), if_neg (by simpa using cn)] at al
      simp (disch := first | with_reducible assumption | exact cat_int | exact cat_ref | exact cat_null | exact cat_ra | exact Nat.le_of_ble_eq_true rfl | (simp (disch := omega) only [hK_sI, hR_sI, hN_sI, hA_sI, hQ_sI, hL_sI, hn_sI, hK_sR, hI_sR, hN_sR, hA_sR, hQ_sR, hL_sR, hn_sR, hK_sA, hI_sA, hR_sA, hN_sA, hQ_sA, hL_sA, hn_sA, hK_sQ, hI_sQ, hR_sQ, hN_sQ, hA_sQ, hL_sQ, hn_sQ, hK_sL, hI_sL, hR_sL, hN_sL, hA_sL, hQ_sL, hn_sL, hK_cpA, hI_cpA, hR_cpA, hN_cpA, hQ_cpA, hL_cpA, hn_cpA, hK_bump, hI_bump, hR_bump, hN_bump, hA_bump, hQ_bump, hL_bump, hn_bump, hI_sI, hR_sR, hA_sA, hQ_sQ, hL_sL, hA_cpA, isS, cat_int, cat_ref, cat_null, cat_ra, wds_nil, wds_int, wds_ref, wds_long, wds_ra, nz5, nz7, nz2, idxN, inAN, if_true, if_false, b00, b11, b01, eq_self, true_or, or_true, false_or, or_false, true_and, and_true, false_and, and_false, not_true, not_false_eq_true, Y_k0 y, Y_r96 y, Y_r102 y, Y_k54 y, Y_r18 y, Y_r19 y, Y_r20 y, Y_k56 y, Y_n56 y, Y_k57 y, Y_n57 y, Y_k58 y, Y_n58 y, LS_k c.l1, a1, a2, a3, k2, ed, eg, al]; done) | omega) only [iX6_carriesOut_0, iX6_carriesOut_1, iX6_carriesOut_4, iX6_carriesOut_7, iX6_carriesOut_8, iX6_carriesOut_9, iX6_carriesOut_10, iX6_carriesOut_11, iX6_carriesOut_14, iX6_carriesOut_17, iX6_carriesOut_18, iX6_carriesOut_19, iX6_carriesOut_20, iX6_carriesOut_21, iX6_carriesOut_24, iX6_carriesOut_27, iX6_carriesOut_28, iX6_carriesOut_29_100, iX6_carriesOut_29_115, iX6_carriesOut_29_d, iX6_carriesOut_84, iX6_carriesOut_85, iX6_carriesOut_88, iX6_carriesOut_89, iX6_carriesOut_92, iX6_carriesOut_95, iX6_carriesOut_96, ↓reduceIte, ofN, reduceCtorEq, Bool.false_eq_true, Nat.reduceAdd, Nat.reduceMul, Nat.reduceEqDiff, Nat.reduceLeDiff, Nat.reduceLT, le_nlt, ite_not, Nat.lt_irrefl, Decidable.not_not, kn1, kn0, knite, isS, getS, cat_int, cat_ref, cat_null, cat_ra, wds_nil, wds_int, wds_ref, wds_long, wds_ra, b0, b01, b00, b11, b10, if_true, if_false, ite_self, not_true, not_false_eq_true, true_or, or_true, false_or, or_false, true_and, and_true, false_and, and_false, eq_self, idxN, inAN, nI_add, nI_mul, nI_sub, nz5, nz7, nz2, nI_ltN, Nat.add_zero, Nat.zero_add, hK_sI, hR_sI, hN_sI, hA_sI, hQ_sI, hL_sI, hn_sI, hK_sR, hI_sR, hN_sR, hA_sR, hQ_sR, hL_sR, hn_sR, hK_sA, hI_sA, hR_sA, hN_sA, hQ_sA, hL_sA, hn_sA, hK_sQ, hI_sQ, hR_sQ, hN_sQ, hA_sQ, hL_sQ, hn_sQ, hK_sL, hI_sL, hR_sL, hN_sL, hA_sL, hQ_sL, hn_sL, hK_cpA, hI_cpA, hR_cpA, hN_cpA, hQ_cpA, hL_cpA, hn_cpA, hK_bump, hI_bump, hR_bump, hN_bump, hA_bump, hQ_bump, hL_bump, hn_bump, hI_sI, hR_sR, hA_sA, hQ_sQ, hL_sL, hA_cpA, Y_k0 y, Y_r96 y, Y_r102 y, Y_k54 y, Y_r18 y, Y_r19 y, Y_r20 y, Y_k56 y, Y_n56 y, Y_k57 y, Y_n57 y, Y_k58 y, Y_n58 y, LS_k c.l1, a1, a2, a3, k2, ed, eg, al]
    · obtain ⟨k3, p, p1, ep⟩ := ord_kc e k1 k2
      rw [exo_c k1 k2 ep p1] at ex
      by_cases cp : p < P
      · have cn : ¬ cmpl (r (25 + 9 * p)) (r (27 + 9 * p)) (nI n) = true := by
          intro z
          rw [if_pos ⟨cp, z⟩] at ex
          cases ex
        have al := s_hasPost (L := L) (xs := xs) (x := nI p) c.l1 R
        rw [inR_n cp (by omega)] at al
        have al2 := s_allow (L := L) (xs := xs) (x := 0) c.l1 R cp
        rw [if_neg cn] at al2
        simp (disch := first | with_reducible assumption | exact cat_int | exact cat_ref | exact cat_null | exact cat_ra | exact Nat.le_of_ble_eq_true rfl | (simp (disch := omega) only [hK_sI, hR_sI, hN_sI, hA_sI, hQ_sI, hL_sI, hn_sI, hK_sR, hI_sR, hN_sR, hA_sR, hQ_sR, hL_sR, hn_sR, hK_sA, hI_sA, hR_sA, hN_sA, hQ_sA, hL_sA, hn_sA, hK_sQ, hI_sQ, hR_sQ, hN_sQ, hA_sQ, hL_sQ, hn_sQ, hK_sL, hI_sL, hR_sL, hN_sL, hA_sL, hQ_sL, hn_sL, hK_cpA, hI_cpA, hR_cpA, hN_cpA, hQ_cpA, hL_cpA, hn_cpA, hK_bump, hI_bump, hR_bump, hN_bump, hA_bump, hQ_bump, hL_bump, hn_bump, hI_sI, hR_sR, hA_sA, hQ_sQ, hL_sL, hA_cpA, isS, cat_int, cat_ref, cat_null, cat_ra, wds_nil, wds_int, wds_ref, wds_long, wds_ra, nz5, nz7, nz2, idxN, inAN, if_true, if_false, b00, b11, b01, eq_self, true_or, or_true, false_or, or_false, true_and, and_true, false_and, and_false, not_true, not_false_eq_true, Y_k0 y, Y_r96 y, Y_r102 y, Y_k54 y, Y_r18 y, Y_r19 y, Y_r20 y, Y_k56 y, Y_n56 y, Y_k57 y, Y_n57 y, Y_k58 y, Y_n58 y, LS_k c.l1, a1, a2, a3, k1, k2, ep, al, al2]; done) | omega) only [iX6_carriesOut_0, iX6_carriesOut_1, iX6_carriesOut_4, iX6_carriesOut_7, iX6_carriesOut_8, iX6_carriesOut_9, iX6_carriesOut_10, iX6_carriesOut_11, iX6_carriesOut_14, iX6_carriesOut_17, iX6_carriesOut_18, iX6_carriesOut_19, iX6_carriesOut_20, iX6_carriesOut_21, iX6_carriesOut_24, iX6_carriesOut_27, iX6_carriesOut_28, iX6_carriesOut_29_100, iX6_carriesOut_29_115, iX6_carriesOut_29_d, iX6_carriesOut_109, iX6_carriesOut_110, iX6_carriesOut_113, iX6_carriesOut_114, iX6_carriesOut_117, iX6_carriesOut_120, iX6_carriesOut_121, iX6_carriesOut_124, iX6_carriesOut_125, iX6_carriesOut_128, iX6_carriesOut_131, iX6_carriesOut_132, ↓reduceIte, ofN, reduceCtorEq, Bool.false_eq_true, Nat.reduceAdd, Nat.reduceMul, Nat.reduceEqDiff, Nat.reduceLeDiff, Nat.reduceLT, le_nlt, ite_not, Nat.lt_irrefl, Decidable.not_not, kn1, kn0, knite, isS, getS, cat_int, cat_ref, cat_null, cat_ra, wds_nil, wds_int, wds_ref, wds_long, wds_ra, b0, b01, b00, b11, b10, if_true, if_false, ite_self, not_true, not_false_eq_true, true_or, or_true, false_or, or_false, true_and, and_true, false_and, and_false, eq_self, idxN, inAN, nI_add, nI_mul, nI_sub, nz5, nz7, nz2, nI_ltN, Nat.add_zero, Nat.zero_add, hK_sI, hR_sI, hN_sI, hA_sI, hQ_sI, hL_sI, hn_sI, hK_sR, hI_sR, hN_sR, hA_sR, hQ_sR, hL_sR, hn_sR, hK_sA, hI_sA, hR_sA, hN_sA, hQ_sA, hL_sA, hn_sA, hK_sQ, hI_sQ, hR_sQ, hN_sQ, hA_sQ, hL_sQ, hn_sQ, hK_sL, hI_sL, hR_sL, hN_sL, hA_sL, hQ_sL, hn_sL, hK_cpA, hI_cpA, hR_cpA, hN_cpA, hQ_cpA, hL_cpA, hn_cpA, hK_bump, hI_bump, hR_bump, hN_bump, hA_bump, hQ_bump, hL_bump, hn_bump, hI_sI, hR_sR, hA_sA, hQ_sQ, hL_sL, hA_cpA, Y_k0 y, Y_r96 y, Y_r102 y, Y_k54 y, Y_r18 y, Y_r19 y, Y_r20 y, Y_k56 y, Y_n56 y, Y_k57 y, Y_n57 y, Y_k58 y, Y_n58 y, LS_k c.l1, a1, a2, a3, k1, k2, ep, al, al2]
      · have al := s_hasPost (L := L) (xs := xs) (x := nI p) c.l1 R
        rw [inR_iff (by omega) (by omega), if_neg (by simpa using cp)] at al
        simp (disch := first | with_reducible assumption | exact cat_int | exact cat_ref | exact cat_null | exact cat_ra | exact Nat.le_of_ble_eq_true rfl | (simp (disch := omega) only [hK_sI, hR_sI, hN_sI, hA_sI, hQ_sI, hL_sI, hn_sI, hK_sR, hI_sR, hN_sR, hA_sR, hQ_sR, hL_sR, hn_sR, hK_sA, hI_sA, hR_sA, hN_sA, hQ_sA, hL_sA, hn_sA, hK_sQ, hI_sQ, hR_sQ, hN_sQ, hA_sQ, hL_sQ, hn_sQ, hK_sL, hI_sL, hR_sL, hN_sL, hA_sL, hQ_sL, hn_sL, hK_cpA, hI_cpA, hR_cpA, hN_cpA, hQ_cpA, hL_cpA, hn_cpA, hK_bump, hI_bump, hR_bump, hN_bump, hA_bump, hQ_bump, hL_bump, hn_bump, hI_sI, hR_sR, hA_sA, hQ_sQ, hL_sL, hA_cpA, isS, cat_int, cat_ref, cat_null, cat_ra, wds_nil, wds_int, wds_ref, wds_long, wds_ra, nz5, nz7, nz2, idxN, inAN, if_true, if_false, b00, b11, b01, eq_self, true_or, or_true, false_or, or_false, true_and, and_true, false_and, and_false, not_true, not_false_eq_true, Y_k0 y, Y_r96 y, Y_r102 y, Y_k54 y, Y_r18 y, Y_r19 y, Y_r20 y, Y_k56 y, Y_n56 y, Y_k57 y, Y_n57 y, Y_k58 y, Y_n58 y, LS_k c.l1, a1, a2, a3, k1, k2, ep, al]; done) | omega) only [iX6_carriesOut_0, iX6_carriesOut_1, iX6_carriesOut_4, iX6_carriesOut_7, iX6_carriesOut_8, iX6_carriesOut_9, iX6_carriesOut_10, iX6_carriesOut_11, iX6_carriesOut_14, iX6_carriesOut_17, iX6_carriesOut_18, iX6_carriesOut_19, iX6_carriesOut_20, iX6_carriesOut_21, iX6_carriesOut_24, iX6_carriesOut_27, iX6_carriesOut_28, iX6_carriesOut_29_100, iX6_carriesOut_29_115, iX6_carriesOut_29_d, iX6_carriesOut_109, iX6_carriesOut_110, iX6_carriesOut_113, iX6_carriesOut_114, iX6_carriesOut_117, iX6_carriesOut_120, iX6_carriesOut_121, iX6_carriesOut_124, iX6_carriesOut_125, iX6_carriesOut_128, iX6_carriesOut_131, iX6_carriesOut_132, ↓reduceIte, ofN, reduceCtorEq, Bool.false_eq_true, Nat.reduceAdd, Nat.reduceMul, Nat.reduceEqDiff, Nat.reduceLeDiff, Nat.reduceLT, le_nlt, ite_not, Nat.lt_irrefl, Decidable.not_not, kn1, kn0, knite, isS, getS, cat_int, cat_ref, cat_null, cat_ra, wds_nil, wds_int, wds_ref, wds_long, wds_ra, b0, b01, b00, b11, b10, if_true, if_false, ite_self, not_true, not_false_eq_true, true_or, or_true, false_or, or_false, true_and, and_true, false_and, and_false, eq_self, idxN, inAN, nI_add, nI_mul, nI_sub, nz5, nz7, nz2, nI_ltN, Nat.add_zero, Nat.zero_add, hK_sI, hR_sI, hN_sI, hA_sI, hQ_sI, hL_sI, hn_sI, hK_sR, hI_sR, hN_sR, hA_sR, hQ_sR, hL_sR, hn_sR, hK_sA, hI_sA, hR_sA, hN_sA, hQ_sA, hL_sA, hn_sA, hK_sQ, hI_sQ, hR_sQ, hN_sQ, hA_sQ, hL_sQ, hn_sQ, hK_sL, hI_sL, hR_sL, hN_sL, hA_sL, hQ_sL, hn_sL, hK_cpA, hI_cpA, hR_cpA, hN_cpA, hQ_cpA, hL_cpA, hn_cpA, hK_bump, hI_bump, hR_bump, hN_bump, hA_bump, hQ_bump, hL_bump, hn_bump, hI_sI, hR_sR, hA_sA, hQ_sQ, hL_sL, hA_cpA, Y_k0 y, Y_r96 y, Y_r102 y, Y_k54 y, Y_r18 y, Y_r19 y, Y_r20 y, Y_k56 y, Y_n56 y, Y_k57 y, Y_n57 y, Y_k58 y, Y_n58 y, LS_k c.l1, a1, a2, a3, k1, k2, ep, al]
theorem car_y {s' : SvT} (c : CR h (r, H, P, G, n) m sv tx len) (hO : ownOK r P G) (hs9 : stepOK r G) (hi : i < 30) (e : ordE tx len q = none) (a1 : hA h 56 i = bt tx len q) (a2 : hA h 57 i = ordT tx len q) (a3 : hA h 58 i = ordD tx len q) (ex : exo tx len q (r, H, P, G, n) = some s') : Ev (ev L xs mdX6_carriesOut 0 [.ref 0, .int (nI i), .null, .null] [] h) (fun z => ∃ h', z = .inl (some (.int (nI 1)), h') ∧ Fr (inTk 1) h h' ∧ RlS h' 1 s') := by
  have y := c.y
  have R := c.R
  have hn9 := R.nn
  have G10 := R.G10
  have P8 := R.P8
  by_cases k1 : bt tx len q = nI 100
  · obtain ⟨d, d1, d2, ed⟩ := ord_kd e k1
    rw [exo_d k1 ed d2] at ex
    have al := s_allowDays (L := L) (xs := xs) (x := nI d) c.l1 R
    split at ex
    · rename_i cn
      cases ex
      rw [if_pos (by rw [day_x hn9 d1 d2]; exact cn)] at al
      simp (disch := first | with_reducible assumption | exact cat_int | exact cat_ref | exact cat_null | exact cat_ra | exact Nat.le_of_ble_eq_true rfl | (simp (disch := omega) only [hK_sI, hR_sI, hN_sI, hA_sI, hQ_sI, hL_sI, hn_sI, hK_sR, hI_sR, hN_sR, hA_sR, hQ_sR, hL_sR, hn_sR, hK_sA, hI_sA, hR_sA, hN_sA, hQ_sA, hL_sA, hn_sA, hK_sQ, hI_sQ, hR_sQ, hN_sQ, hA_sQ, hL_sQ, hn_sQ, hK_sL, hI_sL, hR_sL, hN_sL, hA_sL, hQ_sL, hn_sL, hK_cpA, hI_cpA, hR_cpA, hN_cpA, hQ_cpA, hL_cpA, hn_cpA, hK_bump, hI_bump, hR_bump, hN_bump, hA_bump, hQ_bump, hL_bump, hn_bump, hI_sI, hR_sR, hA_sA, hQ_sQ, hL_sL, hA_cpA, isS, cat_int, cat_ref, cat_null, cat_ra, wds_nil, wds_int, wds_ref, wds_long, wds_ra, nz5, nz7, nz2, idxN, inAN, if_true, if_false, b00, b11, b01, eq_self, true_or, or_true, false_or, or_false, true_and, and_true, false_and, and_false, not_true, not_false_eq_true, Y_k0 y, Y_r96 y, Y_r100 y, Y_r102 y, Y_k54 y, Y_r18 y, Y_r19 y, Y_r20 y, Y_k56 y, Y_n56 y, Y_k57 y, Y_n57 y, Y_k58 y, Y_n58 y, LS_k c.l1, a1, a2, a3, k1, ed, al]; done) | omega) only [iX6_carriesOut_0, iX6_carriesOut_1, iX6_carriesOut_4, iX6_carriesOut_7, iX6_carriesOut_8, iX6_carriesOut_9, iX6_carriesOut_10, iX6_carriesOut_11, iX6_carriesOut_14, iX6_carriesOut_17, iX6_carriesOut_18, iX6_carriesOut_19, iX6_carriesOut_20, iX6_carriesOut_21, iX6_carriesOut_24, iX6_carriesOut_27, iX6_carriesOut_28, iX6_carriesOut_29_100, iX6_carriesOut_29_115, iX6_carriesOut_29_d, iX6_carriesOut_56, iX6_carriesOut_57, iX6_carriesOut_60, iX6_carriesOut_61, iX6_carriesOut_64, iX6_carriesOut_67, iX6_carriesOut_68, iX6_carriesOut_69, iX6_carriesOut_70, iX6_carriesOut_73, iX6_carriesOut_74, iX6_carriesOut_75, iX6_carriesOut_78, ↓reduceIte, ofN, reduceCtorEq, Bool.false_eq_true, Nat.reduceAdd, Nat.reduceMul, Nat.reduceEqDiff, Nat.reduceLeDiff, Nat.reduceLT, le_nlt, ite_not, Nat.lt_irrefl, Decidable.not_not, kn1, kn0, knite, isS, getS, cat_int, cat_ref, cat_null, cat_ra, wds_nil, wds_int, wds_ref, wds_long, wds_ra, b0, b01, b00, b11, b10, if_true, if_false, ite_self, not_true, not_false_eq_true, true_or, or_true, false_or, or_false, true_and, and_true, false_and, and_false, eq_self, idxN, inAN, nI_add, nI_mul, nI_sub, nz5, nz7, nz2, nI_ltN, Nat.add_zero, Nat.zero_add, hK_sI, hR_sI, hN_sI, hA_sI, hQ_sI, hL_sI, hn_sI, hK_sR, hI_sR, hN_sR, hA_sR, hQ_sR, hL_sR, hn_sR, hK_sA, hI_sA, hR_sA, hN_sA, hQ_sA, hL_sA, hn_sA, hK_sQ, hI_sQ, hR_sQ, hN_sQ, hA_sQ, hL_sQ, hn_sQ, hK_sL, hI_sL, hR_sL, hN_sL, hA_sL, hQ_sL, hn_sL, hK_cpA, hI_cpA, hR_cpA, hN_cpA, hQ_cpA, hL_cpA, hn_cpA, hK_bump, hI_bump, hR_bump, hN_bump, hA_bump, hQ_bump, hL_bump, hn_bump, hI_sI, hR_sR, hA_sA, hQ_sQ, hL_sL, hA_cpA, Y_k0 y, Y_r96 y, Y_r100 y, Y_r102 y, Y_k54 y, Y_r18 y, Y_r19 y, Y_r20 y, Y_k56 y, Y_n56 y, Y_k57 y, Y_n57 y, Y_k58 y, Y_n58 y, LS_k c.l1, a1, a2, a3, k1, ed, al]
      refine Ev_call (s_takeDays y c.l1 R (by omega) hO hs9 d1 (by omega)) ?_
      rintro _ ⟨h1, rfl, f1, R1⟩
      simp (disch := first | with_reducible assumption | exact cat_int | exact cat_ref | exact cat_null | exact cat_ra | exact Nat.le_of_ble_eq_true rfl | (simp (disch := omega) only [hK_sI, hR_sI, hN_sI, hA_sI, hQ_sI, hL_sI, hn_sI, hK_sR, hI_sR, hN_sR, hA_sR, hQ_sR, hL_sR, hn_sR, hK_sA, hI_sA, hR_sA, hN_sA, hQ_sA, hL_sA, hn_sA, hK_sQ, hI_sQ, hR_sQ, hN_sQ, hA_sQ, hL_sQ, hn_sQ, hK_sL, hI_sL, hR_sL, hN_sL, hA_sL, hQ_sL, hn_sL, hK_cpA, hI_cpA, hR_cpA, hN_cpA, hQ_cpA, hL_cpA, hn_cpA, hK_bump, hI_bump, hR_bump, hN_bump, hA_bump, hQ_bump, hL_bump, hn_bump, hI_sI, hR_sR, hA_sA, hQ_sQ, hL_sL, hA_cpA, isS, cat_int, cat_ref, cat_null, cat_ra, wds_nil, wds_int, wds_ref, wds_long, wds_ra, nz5, nz7, nz2, idxN, inAN, if_true, if_false, b00, b11, b01, eq_self, true_or, or_true, false_or, or_false, true_and, and_true, false_and, and_false, not_true, not_false_eq_true, Ev_some]; done) | omega) only [iX6_carriesOut_81, iX6_carriesOut_82, iX6_carriesOut_83, ↓reduceIte, ofN, reduceCtorEq, Bool.false_eq_true, Nat.reduceAdd, Nat.reduceMul, Nat.reduceEqDiff, Nat.reduceLeDiff, Nat.reduceLT, le_nlt, ite_not, Nat.lt_irrefl, Decidable.not_not, kn1, kn0, knite, isS, getS, cat_int, cat_ref, cat_null, cat_ra, wds_nil, wds_int, wds_ref, wds_long, wds_ra, b0, b01, b00, b11, b10, if_true, if_false, ite_self, not_true, not_false_eq_true, true_or, or_true, false_or, or_false, true_and, and_true, false_and, and_false, eq_self, idxN, inAN, nI_add, nI_mul, nI_sub, nz5, nz7, nz2, nI_ltN, Nat.add_zero, Nat.zero_add, hK_sI, hR_sI, hN_sI, hA_sI, hQ_sI, hL_sI, hn_sI, hK_sR, hI_sR, hN_sR, hA_sR, hQ_sR, hL_sR, hn_sR, hK_sA, hI_sA, hR_sA, hN_sA, hQ_sA, hL_sA, hn_sA, hK_sQ, hI_sQ, hR_sQ, hN_sQ, hA_sQ, hL_sQ, hn_sQ, hK_sL, hI_sL, hR_sL, hN_sL, hA_sL, hQ_sL, hn_sL, hK_cpA, hI_cpA, hR_cpA, hN_cpA, hQ_cpA, hL_cpA, hn_cpA, hK_bump, hI_bump, hR_bump, hN_bump, hA_bump, hQ_bump, hL_bump, hn_bump, hI_sI, hR_sR, hA_sA, hQ_sQ, hL_sL, hA_cpA, Ev_some]
      exact ⟨h1, rfl, f1, R1⟩
    · cases ex
  · by_cases k2 : bt tx len q = nI 115
    · obtain ⟨d, g, d1, d2, g1, ed, eg⟩ := ord_ks e k1 k2
      rw [exo_s k1 k2 ed eg g1] at ex
      have al := s_hasGuard (L := L) (xs := xs) (x := nI g) c.l1 R
      split at ex
      · rename_i cn
        cases ex
        rw [inR_n cn (by omega), if_pos rfl] at al
        simp (disch := first | with_reducible assumption | exact cat_int | exact cat_ref | exact cat_null | exact cat_ra | exact Nat.le_of_ble_eq_true rfl | (simp (disch := omega) only [hK_sI, hR_sI, hN_sI, hA_sI, hQ_sI, hL_sI, hn_sI, hK_sR, hI_sR, hN_sR, hA_sR, hQ_sR, hL_sR, hn_sR, hK_sA, hI_sA, hR_sA, hN_sA, hQ_sA, hL_sA, hn_sA, hK_sQ, hI_sQ, hR_sQ, hN_sQ, hA_sQ, hL_sQ, hn_sQ, hK_sL, hI_sL, hR_sL, hN_sL, hA_sL, hQ_sL, hn_sL, hK_cpA, hI_cpA, hR_cpA, hN_cpA, hQ_cpA, hL_cpA, hn_cpA, hK_bump, hI_bump, hR_bump, hN_bump, hA_bump, hQ_bump, hL_bump, hn_bump, hI_sI, hR_sR, hA_sA, hQ_sQ, hL_sL, hA_cpA, isS, cat_int, cat_ref, cat_null, cat_ra, wds_nil, wds_int, wds_ref, wds_long, wds_ra, nz5, nz7, nz2, idxN, inAN, if_true, if_false, b00, b11, b01, eq_self, true_or, or_true, false_or, or_false, true_and, and_true, false_and, and_false, not_true, not_false_eq_true, Y_k0 y, Y_r96 y, Y_r102 y, Y_k54 y, Y_r18 y, Y_r19 y, Y_r20 y, Y_k56 y, Y_n56 y, Y_k57 y, Y_n57 y, Y_k58 y, Y_n58 y, LS_k c.l1, a1, a2, a3, k2, ed, eg, al]; done) | omega) only [iX6_carriesOut_0, iX6_carriesOut_1, iX6_carriesOut_4, iX6_carriesOut_7, iX6_carriesOut_8, iX6_carriesOut_9, iX6_carriesOut_10, iX6_carriesOut_11, iX6_carriesOut_14, iX6_carriesOut_17, iX6_carriesOut_18, iX6_carriesOut_19, iX6_carriesOut_20, iX6_carriesOut_21, iX6_carriesOut_24, iX6_carriesOut_27, iX6_carriesOut_28, iX6_carriesOut_29_100, iX6_carriesOut_29_115, iX6_carriesOut_29_d, iX6_carriesOut_84, iX6_carriesOut_85, iX6_carriesOut_88, iX6_carriesOut_89, iX6_carriesOut_92, iX6_carriesOut_95, iX6_carriesOut_96, iX6_carriesOut_97, iX6_carriesOut_98, iX6_carriesOut_101, iX6_carriesOut_102, iX6_carriesOut_103, ↓reduceIte, ofN, reduceCtorEq, Bool.false_eq_true, Nat.reduceAdd, Nat.reduceMul, Nat.reduceEqDiff, Nat.reduceLeDiff, Nat.reduceLT, le_nlt, ite_not, Nat.lt_irrefl, Decidable.not_not, kn1, kn0, knite, isS, getS, cat_int, cat_ref, cat_null, cat_ra, wds_nil, wds_int, wds_ref, wds_long, wds_ra, b0, b01, b00, b11, b10, if_true, if_false, ite_self, not_true, not_false_eq_true, true_or, or_true, false_or, or_false, true_and, and_true, false_and, and_false, eq_self, idxN, inAN, nI_add, nI_mul, nI_sub, nz5, nz7, nz2, nI_ltN, Nat.add_zero, Nat.zero_add, hK_sI, hR_sI, hN_sI, hA_sI, hQ_sI, hL_sI, hn_sI, hK_sR, hI_sR, hN_sR, hA_sR, hQ_sR, hL_sR, hn_sR, hK_sA, hI_sA, hR_sA, hN_sA, hQ_sA, hL_sA, hn_sA, hK_sQ, hI_sQ, hR_sQ, hN_sQ, hA_sQ, hL_sQ, hn_sQ, hK_sL, hI_sL, hR_sL, hN_sL, hA_sL, hQ_sL, hn_sL, hK_cpA, hI_cpA, hR_cpA, hN_cpA, hQ_cpA, hL_cpA, hn_cpA, hK_bump, hI_bump, hR_bump, hN_bump, hA_bump, hQ_bump, hL_bump, hn_bump, hI_sI, hR_sR, hA_sA, hQ_sQ, hL_sL, hA_cpA, Y_k0 y, Y_r96 y, Y_r102 y, Y_k54 y, Y_r18 y, Y_r19 y, Y_r20 y, Y_k56 y, Y_n56 y, Y_k57 y, Y_n57 y, Y_k58 y, Y_n58 y, LS_k c.l1, a1, a2, a3, k2, ed, eg, al]
        refine Ev_call (s_report c.l1 R cn) ?_
        rintro _ ⟨h1, rfl, f1, R1⟩
        rw [nI_add] at R1
        simp (disch := first | with_reducible assumption | exact cat_int | exact cat_ref | exact cat_null | exact cat_ra | exact Nat.le_of_ble_eq_true rfl | (simp (disch := omega) only [hK_sI, hR_sI, hN_sI, hA_sI, hQ_sI, hL_sI, hn_sI, hK_sR, hI_sR, hN_sR, hA_sR, hQ_sR, hL_sR, hn_sR, hK_sA, hI_sA, hR_sA, hN_sA, hQ_sA, hL_sA, hn_sA, hK_sQ, hI_sQ, hR_sQ, hN_sQ, hA_sQ, hL_sQ, hn_sQ, hK_sL, hI_sL, hR_sL, hN_sL, hA_sL, hQ_sL, hn_sL, hK_cpA, hI_cpA, hR_cpA, hN_cpA, hQ_cpA, hL_cpA, hn_cpA, hK_bump, hI_bump, hR_bump, hN_bump, hA_bump, hQ_bump, hL_bump, hn_bump, hI_sI, hR_sR, hA_sA, hQ_sQ, hL_sL, hA_cpA, isS, cat_int, cat_ref, cat_null, cat_ra, wds_nil, wds_int, wds_ref, wds_long, wds_ra, nz5, nz7, nz2, idxN, inAN, if_true, if_false, b00, b11, b01, eq_self, true_or, or_true, false_or, or_false, true_and, and_true, false_and, and_false, not_true, not_false_eq_true, Ev_some]; done) | omega) only [iX6_carriesOut_106, iX6_carriesOut_107, iX6_carriesOut_108, ↓reduceIte, ofN, reduceCtorEq, Bool.false_eq_true, Nat.reduceAdd, Nat.reduceMul, Nat.reduceEqDiff, Nat.reduceLeDiff, Nat.reduceLT, le_nlt, ite_not, Nat.lt_irrefl, Decidable.not_not, kn1, kn0, knite, isS, getS, cat_int, cat_ref, cat_null, cat_ra, wds_nil, wds_int, wds_ref, wds_long, wds_ra, b0, b01, b00, b11, b10, if_true, if_false, ite_self, not_true, not_false_eq_true, true_or, or_true, false_or, or_false, true_and, and_true, false_and, and_false, eq_self, idxN, inAN, nI_add, nI_mul, nI_sub, nz5, nz7, nz2, nI_ltN, Nat.add_zero, Nat.zero_add, hK_sI, hR_sI, hN_sI, hA_sI, hQ_sI, hL_sI, hn_sI, hK_sR, hI_sR, hN_sR, hA_sR, hQ_sR, hL_sR, hn_sR, hK_sA, hI_sA, hR_sA, hN_sA, hQ_sA, hL_sA, hn_sA, hK_sQ, hI_sQ, hR_sQ, hN_sQ, hA_sQ, hL_sQ, hn_sQ, hK_sL, hI_sL, hR_sL, hN_sL, hA_sL, hQ_sL, hn_sL, hK_cpA, hI_cpA, hR_cpA, hN_cpA, hQ_cpA, hL_cpA, hn_cpA, hK_bump, hI_bump, hR_bump, hN_bump, hA_bump, hQ_bump, hL_bump, hn_bump, hI_sI, hR_sR, hA_sA, hQ_sQ, hL_sL, hA_cpA, Ev_some]
        exact ⟨h1, rfl, f1.mono (fun i hi => Or.inr hi), R1⟩
      · cases ex
    · obtain ⟨k3, p, p1, ep⟩ := ord_kc e k1 k2
      rw [exo_c k1 k2 ep p1] at ex
      split at ex
      · rename_i cn
        obtain ⟨cp, cq⟩ := cn
        cases ex
        have al := s_hasPost (L := L) (xs := xs) (x := nI p) c.l1 R
        rw [inR_n cp (by omega), if_pos rfl] at al
        have al2 := s_allow (L := L) (xs := xs) (x := 0) c.l1 R cp
        rw [if_pos cq] at al2
        simp (disch := first | with_reducible assumption | exact cat_int | exact cat_ref | exact cat_null | exact cat_ra | exact Nat.le_of_ble_eq_true rfl | (simp (disch := omega) only [hK_sI, hR_sI, hN_sI, hA_sI, hQ_sI, hL_sI, hn_sI, hK_sR, hI_sR, hN_sR, hA_sR, hQ_sR, hL_sR, hn_sR, hK_sA, hI_sA, hR_sA, hN_sA, hQ_sA, hL_sA, hn_sA, hK_sQ, hI_sQ, hR_sQ, hN_sQ, hA_sQ, hL_sQ, hn_sQ, hK_sL, hI_sL, hR_sL, hN_sL, hA_sL, hQ_sL, hn_sL, hK_cpA, hI_cpA, hR_cpA, hN_cpA, hQ_cpA, hL_cpA, hn_cpA, hK_bump, hI_bump, hR_bump, hN_bump, hA_bump, hQ_bump, hL_bump, hn_bump, hI_sI, hR_sR, hA_sA, hQ_sQ, hL_sL, hA_cpA, isS, cat_int, cat_ref, cat_null, cat_ra, wds_nil, wds_int, wds_ref, wds_long, wds_ra, nz5, nz7, nz2, idxN, inAN, if_true, if_false, b00, b11, b01, eq_self, true_or, or_true, false_or, or_false, true_and, and_true, false_and, and_false, not_true, not_false_eq_true, Y_k0 y, Y_r96 y, Y_r102 y, Y_k54 y, Y_r18 y, Y_r19 y, Y_r20 y, Y_k56 y, Y_n56 y, Y_k57 y, Y_n57 y, Y_k58 y, Y_n58 y, LS_k c.l1, a1, a2, a3, k1, k2, ep, al, al2]; done) | omega) only [iX6_carriesOut_0, iX6_carriesOut_1, iX6_carriesOut_4, iX6_carriesOut_7, iX6_carriesOut_8, iX6_carriesOut_9, iX6_carriesOut_10, iX6_carriesOut_11, iX6_carriesOut_14, iX6_carriesOut_17, iX6_carriesOut_18, iX6_carriesOut_19, iX6_carriesOut_20, iX6_carriesOut_21, iX6_carriesOut_24, iX6_carriesOut_27, iX6_carriesOut_28, iX6_carriesOut_29_100, iX6_carriesOut_29_115, iX6_carriesOut_29_d, iX6_carriesOut_109, iX6_carriesOut_110, iX6_carriesOut_113, iX6_carriesOut_114, iX6_carriesOut_117, iX6_carriesOut_120, iX6_carriesOut_121, iX6_carriesOut_124, iX6_carriesOut_125, iX6_carriesOut_128, iX6_carriesOut_131, iX6_carriesOut_132, iX6_carriesOut_133, iX6_carriesOut_134, iX6_carriesOut_137, iX6_carriesOut_138, ↓reduceIte, ofN, reduceCtorEq, Bool.false_eq_true, Nat.reduceAdd, Nat.reduceMul, Nat.reduceEqDiff, Nat.reduceLeDiff, Nat.reduceLT, le_nlt, ite_not, Nat.lt_irrefl, Decidable.not_not, kn1, kn0, knite, isS, getS, cat_int, cat_ref, cat_null, cat_ra, wds_nil, wds_int, wds_ref, wds_long, wds_ra, b0, b01, b00, b11, b10, if_true, if_false, ite_self, not_true, not_false_eq_true, true_or, or_true, false_or, or_false, true_and, and_true, false_and, and_false, eq_self, idxN, inAN, nI_add, nI_mul, nI_sub, nz5, nz7, nz2, nI_ltN, Nat.add_zero, Nat.zero_add, hK_sI, hR_sI, hN_sI, hA_sI, hQ_sI, hL_sI, hn_sI, hK_sR, hI_sR, hN_sR, hA_sR, hQ_sR, hL_sR, hn_sR, hK_sA, hI_sA, hR_sA, hN_sA, hQ_sA, hL_sA, hn_sA, hK_sQ, hI_sQ, hR_sQ, hN_sQ, hA_sQ, hL_sQ, hn_sQ, hK_sL, hI_sL, hR_sL, hN_sL, hA_sL, hQ_sL, hn_sL, hK_cpA, hI_cpA, hR_cpA, hN_cpA, hQ_cpA, hL_cpA, hn_cpA, hK_bump, hI_bump, hR_bump, hN_bump, hA_bump, hQ_bump, hL_bump, hn_bump, hI_sI, hR_sR, hA_sA, hQ_sQ, hL_sL, hA_cpA, Y_k0 y, Y_r96 y, Y_r102 y, Y_k54 y, Y_r18 y, Y_r19 y, Y_r20 y, Y_k56 y, Y_n56 y, Y_k57 y, Y_n57 y, Y_k58 y, Y_n58 y, LS_k c.l1, a1, a2, a3, k1, k2, ep, al, al2]
        refine Ev_call (s_fileC c.l1 R cp) ?_
        rintro _ ⟨h1, rfl, f1, R1⟩
        simp (disch := first | with_reducible assumption | exact cat_int | exact cat_ref | exact cat_null | exact cat_ra | exact Nat.le_of_ble_eq_true rfl | (simp (disch := omega) only [hK_sI, hR_sI, hN_sI, hA_sI, hQ_sI, hL_sI, hn_sI, hK_sR, hI_sR, hN_sR, hA_sR, hQ_sR, hL_sR, hn_sR, hK_sA, hI_sA, hR_sA, hN_sA, hQ_sA, hL_sA, hn_sA, hK_sQ, hI_sQ, hR_sQ, hN_sQ, hA_sQ, hL_sQ, hn_sQ, hK_sL, hI_sL, hR_sL, hN_sL, hA_sL, hQ_sL, hn_sL, hK_cpA, hI_cpA, hR_cpA, hN_cpA, hQ_cpA, hL_cpA, hn_cpA, hK_bump, hI_bump, hR_bump, hN_bump, hA_bump, hQ_bump, hL_bump, hn_bump, hI_sI, hR_sR, hA_sA, hQ_sQ, hL_sL, hA_cpA, isS, cat_int, cat_ref, cat_null, cat_ra, wds_nil, wds_int, wds_ref, wds_long, wds_ra, nz5, nz7, nz2, idxN, inAN, if_true, if_false, b00, b11, b01, eq_self, true_or, or_true, false_or, or_false, true_and, and_true, false_and, and_false, not_true, not_false_eq_true, Ev_some]; done) | omega) only [iX6_carriesOut_141, iX6_carriesOut_142, iX6_carriesOut_143, ↓reduceIte, ofN, reduceCtorEq, Bool.false_eq_true, Nat.reduceAdd, Nat.reduceMul, Nat.reduceEqDiff, Nat.reduceLeDiff, Nat.reduceLT, le_nlt, ite_not, Nat.lt_irrefl, Decidable.not_not, kn1, kn0, knite, isS, getS, cat_int, cat_ref, cat_null, cat_ra, wds_nil, wds_int, wds_ref, wds_long, wds_ra, b0, b01, b00, b11, b10, if_true, if_false, ite_self, not_true, not_false_eq_true, true_or, or_true, false_or, or_false, true_and, and_true, false_and, and_false, eq_self, idxN, inAN, nI_add, nI_mul, nI_sub, nz5, nz7, nz2, nI_ltN, Nat.add_zero, Nat.zero_add, hK_sI, hR_sI, hN_sI, hA_sI, hQ_sI, hL_sI, hn_sI, hK_sR, hI_sR, hN_sR, hA_sR, hQ_sR, hL_sR, hn_sR, hK_sA, hI_sA, hR_sA, hN_sA, hQ_sA, hL_sA, hn_sA, hK_sQ, hI_sQ, hR_sQ, hN_sQ, hA_sQ, hL_sQ, hn_sQ, hK_sL, hI_sL, hR_sL, hN_sL, hA_sL, hQ_sL, hn_sL, hK_cpA, hI_cpA, hR_cpA, hN_cpA, hQ_cpA, hL_cpA, hn_cpA, hK_bump, hI_bump, hR_bump, hN_bump, hA_bump, hQ_bump, hL_bump, hn_bump, hI_sI, hR_sR, hA_sA, hQ_sQ, hL_sL, hA_cpA, Ev_some]
        exact ⟨h1, rfl, f1.mono (fun i hi => Or.inr hi), R1⟩
      · cases ex
end
