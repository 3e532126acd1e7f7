/-! THE MODEL: carryOut -/
section
variable {L : Nat} {xs : Nat → Int32} {h h2 h3 : AH} {s : SvT} {m len q : Nat} {sv : Nat → SvT} {tx t : Rw} {r : Rw} {H P G n : Nat}
theorem MR.frP (c : MR h s m sv tx len) (f : FrP h h2) : MR h2 s m sv tx len :=
  c.re (f.1.y c.y) (funext fun j => f.1.ar (by omega)) (funext fun j => f.1.ar (by omega)) (funext fun j => f.1.ar (by omega)) (f.2 116 (by omega) (by omega) (by omega)) (f.2 118 (by omega) (by omega) (by omega)) (f.2 122 (by omega) (by omega) (by omega))
theorem MR.pm (c : MR h s m sv tx len) (e1 : hI h 124 151 = nI q) (e2 : hI h 125 151 = -1) (hq : q < 200) : PM h tx len q := ⟨c.y, c.txt, c.ln, e1, e2, c.l9, hq⟩
theorem FrP.th (f : FrP h h2) : hI h2 112 151 = hI h 112 151 := f.2 112 (by omega) (by omega) (by omega)
theorem FrP.mm (f : FrP h h2) : Fr inM h h2 := f.1.mono (fun i hi => by unfold inM; omega)
theorem exK_ok {s : SvT} (hP : s.2.2.1 ≤ 8) (ok : okS s) : ∀ i, (∀ j, j < i → ordE t len (posK t len j) = none) → (exK t len s i).2.2.1 = s.2.2.1 ∧ okS (exK t len s i)
  | 0, _ => ⟨rfl, ok⟩
  | i + 1, ho => by
    obtain ⟨e1, ih⟩ := exK_ok hP ok i (fun j hj => ho j (by omega))
    have e : exK t len s (i + 1) = (exo t len (posK t len i) (exK t len s i)).getD (exK t len s i) := rfl
    rw [e]
    cases ex : exo t len (posK t len i) (exK t len s i) with
    | none => exact ⟨e1, ih⟩
    | some s' =>
      refine ⟨?_, exo_ok (by omega) (ho i (by omega)) ex ih⟩
      rw [← e1]
      generalize exK t len s i = s0 at ex
      obtain ⟨r, H, P, G, n⟩ := s0
      unfold exo at ex
      split at ex
      · split at ex
        · cases ex; rfl
        · cases ex
      · split at ex
        · split at ex
          · cases ex; rfl
          · cases ex
        · split at ex
          · cases ex; rfl
          · cases ex
theorem goN_pl {k : Nat} (hk : k < 93) (h9 : 9 ≤ k) (h : ∀ p, ¬ k = 28 + 9 * p ∧ ¬ k = 29 + 9 * p ∧ ¬ k = 23 + 9 * p ∧ ¬ k = 25 + 9 * p) : ∀ j, goN r H P G n j k = r k
  | 0 => rfl
  | j + 1 => by
    show goR (goN r H P G n j) H P G (n + j) k = r k
    unfold goR
    rw [if_neg (by omega), if_neg (by omega), if_neg (by omega), if_neg (by omega), if_neg (by omega), itS_pl hk h]
    exact goN_pl hk h9 h j
theorem exo_cB {s s' : SvT} {B : Nat} (hP : s.2.2.1 ≤ 8) (e : ordE t len q = none) (ex : exo t len q s = some s') (cb : cBd s.1 s.2.2.1 B) : cBd s'.1 s'.2.2.1 (B + 1) := by
  obtain ⟨r, H, P, G, n⟩ := s
  change cBd r P B at cb
  change P ≤ 8 at hP
  by_cases k1 : bt t len q = nI 100
  · obtain ⟨d, d1, d2, ed⟩ := ord_kd e k1
    rw [exo_d k1 ed d2] at ex
    split at ex
    · cases ex
      intro p hp
      change p < P at hp
      obtain ⟨c, hc, ec⟩ := cb p hp
      refine ⟨c, by omega, ?_⟩
      show goN r H P G n _ (24 + 9 * p) = _
      rw [goN_pl (by omega) (by omega) (fun q => ⟨by omega, by omega, by omega, by omega⟩)]
      exact ec
    · cases ex
  · by_cases k2 : bt t len q = nI 115
    · obtain ⟨d, g, d1, d2, g1, ed, eg⟩ := ord_ks e k1 k2
      rw [exo_s k1 k2 ed eg g1] at ex
      split at ex
      · cases ex
        intro p hp
        change p < P at hp
        obtain ⟨c, hc, ec⟩ := cb p hp
        refine ⟨c, by omega, ?_⟩
        show pu r _ _ (24 + 9 * p) = _
        unfold pu
        rw [if_neg (by omega)]
        exact ec
      · cases ex
    · obtain ⟨k3, p9, p1, ep⟩ := ord_kc e k1 k2
      rw [exo_c k1 k2 ep p1] at ex
      split at ex
      · cases ex
        intro p hp
        change p < P at hp
        obtain ⟨c, hc, ec⟩ := cb p hp
        show ∃ c, c ≤ B + 1 ∧ complR r p9 n (24 + 9 * p) = nI c
        unfold complR
        by_cases cp : p = p9
        · subst cp
          exact ⟨c + 1, by omega, by rw [if_neg (by omega), if_pos rfl, ec, nI_add]⟩
        · exact ⟨c, by omega, by rw [if_neg (by omega), if_neg (by omega), if_neg (by omega), if_neg (by omega)]; exact ec⟩
      · cases ex
theorem exK_cB {s : SvT} {B : Nat} (hP : s.2.2.1 ≤ 8) (ok : okS s) (cb : cBd s.1 s.2.2.1 B) : ∀ i, (∀ j, j < i → ordE t len (posK t len j) = none) → cBd (exK t len s i).1 (exK t len s i).2.2.1 (B + i)
  | 0, _ => cb
  | i + 1, ho => by
    have ih := exK_cB hP ok cb i (fun j hj => ho j (by omega))
    have eP := (exK_ok hP ok i (fun j hj => ho j (by omega))).1
    have e : exK t len s (i + 1) = (exo t len (posK t len i) (exK t len s i)).getD (exK t len s i) := rfl
    rw [e]
    cases ex : exo t len (posK t len i) (exK t len s i) with
    | none =>
      intro p hp
      obtain ⟨c, hc, ec⟩ := ih p hp
      exact ⟨c, by omega, ec⟩
    | some s' => exact exo_cB (by omega) (ho i (by omega)) ex ih
theorem b_carry {B : Nat} (c : MR h s m sv tx len) (ok : okS s) (cb : cBd s.1 s.2.2.1 B) (hB : B < 900000) : Ev (ev L xs mdX7_carryOut 0 [.ref 151, .null, .null, .null, .null] [] h) (fun z => (∃ e k, e < 500 ∧ CaQ s tx len e 0 ∧ OkM h s m sv tx len (some (.int (-10 - nI e))) k z) ∨ ∃ i k, i ≤ 30 ∧ CaQ s tx len 1000 i ∧ OkM h (exK tx len s i) (pushN m) (push m sv s) tx len (some (.int (nI i))) k z) := by
  have l9 := c.l9
  have w4 : (124 : Nat) = 124 ∨ 124 = 125 ∨ 124 = 126 := by omega
  have w5 : (125 : Nat) = 124 ∨ 125 = 125 ∨ 125 = 126 := by omega
  have e1 : inM 151 := by unfold inM; omega
  have hP := c.1.P8
  simp (disch := first | with_reducible assumption | exact cat_int | exact cat_ref | exact cat_null | exact cat_ra | exact Nat.le_of_ble_eq_true rfl | (simp (disch := omega) only [hK_sI, hR_sI, hN_sI, hA_sI, hQ_sI, hL_sI, hn_sI, hK_sR, hI_sR, hN_sR, hA_sR, hQ_sR, hL_sR, hn_sR, hK_sA, hI_sA, hR_sA, hN_sA, hQ_sA, hL_sA, hn_sA, hK_sQ, hI_sQ, hR_sQ, hN_sQ, hA_sQ, hL_sQ, hn_sQ, hK_sL, hI_sL, hR_sL, hN_sL, hA_sL, hQ_sL, hn_sL, hK_cpA, hI_cpA, hR_cpA, hN_cpA, hQ_cpA, hL_cpA, hn_cpA, hK_bump, hI_bump, hR_bump, hN_bump, hA_bump, hQ_bump, hL_bump, hn_bump, hI_sI, hR_sR, hA_sA, hQ_sQ, hL_sL, hA_cpA, isS, cat_int, cat_ref, cat_null, cat_ra, wds_nil, wds_int, wds_ref, wds_long, wds_ra, nz5, nz7, nz2, idxN, inAN, if_true, if_false, b00, b11, b01, eq_self, true_or, or_true, false_or, or_false, true_and, and_true, false_and, and_false, not_true, not_false_eq_true, Y_k151 c.y]; done) | omega) only [iX7_carryOut_0, iX7_carryOut_1, iX7_carryOut_2, iX7_carryOut_5, iX7_carryOut_6, iX7_carryOut_7, iX7_carryOut_10, iX7_carryOut_11, iX7_carryOut_12, ↓reduceIte, ofN, reduceCtorEq, Bool.false_eq_true, Nat.reduceAdd, Nat.reduceMul, Nat.reduceEqDiff, Nat.reduceLeDiff, Nat.reduceLT, le_nlt, ite_not, Nat.lt_irrefl, Decidable.not_not, kn1, kn0, knite, isS, getS, cat_int, cat_ref, cat_null, cat_ra, wds_nil, wds_int, wds_ref, wds_long, wds_ra, b0, b01, b00, b11, b10, if_true, if_false, ite_self, not_true, not_false_eq_true, true_or, or_true, false_or, or_false, true_and, and_true, false_and, and_false, eq_self, idxN, inAN, nI_add, nI_mul, nI_sub, nz5, nz7, nz2, nI_ltN, Nat.add_zero, Nat.zero_add, hK_sI, hR_sI, hN_sI, hA_sI, hQ_sI, hL_sI, hn_sI, hK_sR, hI_sR, hN_sR, hA_sR, hQ_sR, hL_sR, hn_sR, hK_sA, hI_sA, hR_sA, hN_sA, hQ_sA, hL_sA, hn_sA, hK_sQ, hI_sQ, hR_sQ, hN_sQ, hA_sQ, hL_sQ, hn_sQ, hK_sL, hI_sL, hR_sL, hN_sL, hA_sL, hQ_sL, hn_sL, hK_cpA, hI_cpA, hR_cpA, hN_cpA, hQ_cpA, hL_cpA, hn_cpA, hK_bump, hI_bump, hR_bump, hN_bump, hA_bump, hQ_bump, hL_bump, hn_bump, hI_sI, hR_sR, hA_sA, hQ_sQ, hL_sL, hA_cpA, Y_k151 c.y]
  have c0 : MR (sI (sI (sI h 112 151 (nI 0)) 124 151 (nI 0)) 125 151 (-1)) s m sv tx len := c.th.frP ((FrP.rf.w w4).w w5)
  have f0 : Fr inM h (sI (sI (sI h 112 151 (nI 0)) 124 151 (nI 0)) 125 151 (-1)) := Fr.wI (Fr.wI (Fr.wI Fr.rfl e1) e1) e1
  have t0 : hI (sI (sI (sI h 112 151 (nI 0)) 124 151 (nI 0)) 125 151 (-1)) 112 151 = nI 0 := by simp [hI_sI]
  have a0 : hI (sI (sI (sI h 112 151 (nI 0)) 124 151 (nI 0)) 125 151 (-1)) 124 151 = nI 0 := by simp [hI_sI]
  have b0 : hI (sI (sI (sI h 112 151 (nI 0)) 124 151 (nI 0)) 125 151 (-1)) 125 151 = -1 := by simp [hI_sI]
  generalize sI (sI (sI h 112 151 (nI 0)) 124 151 (nI 0)) 125 151 (-1) = h0 at *
  have second : ∀ (h1 : AH) (k : Nat) (v1 v2 v3 v4 : Value), FrP h0 h1 → hI h1 125 151 = -1 → (∀ j, j < k → posK tx len j < len ∧ ordE tx len (posK tx len j) = none) → ¬ posK tx len k < len → k ≤ 30 → v2.category = 1 → v3.category = 1 → v4.category = 1 → v1.category = 1 → Ev (ev L xs mdX7_carryOut 60 [.ref 151, v1, v2, v3, v4] [] h1) (fun z => (∃ e k, e < 500 ∧ CaQ s tx len e 0 ∧ OkM h s m sv tx len (some (.int (-10 - nI e))) k z) ∨ ∃ i k, i ≤ 30 ∧ CaQ s tx len 1000 i ∧ OkM h (exK tx len s i) (pushN m) (push m sv s) tx len (some (.int (nI i))) k z) := by
    intro h1 k v1 v2 v3 v4 f1 ft1 ha hb k30 hv2 hv3 hv4 hv1
    have c1 := c0.frP f1
    simp (disch := first | with_reducible assumption | exact cat_int | exact cat_ref | exact cat_null | exact cat_ra | exact Nat.le_of_ble_eq_true rfl | (simp (disch := omega) only [hK_sI, hR_sI, hN_sI, hA_sI, hQ_sI, hL_sI, hn_sI, hK_sR, hI_sR, hN_sR, hA_sR, hQ_sR, hL_sR, hn_sR, hK_sA, hI_sA, hR_sA, hN_sA, hQ_sA, hL_sA, hn_sA, hK_sQ, hI_sQ, hR_sQ, hN_sQ, hA_sQ, hL_sQ, hn_sQ, hK_sL, hI_sL, hR_sL, hN_sL, hA_sL, hQ_sL, hn_sL, hK_cpA, hI_cpA, hR_cpA, hN_cpA, hQ_cpA, hL_cpA, hn_cpA, hK_bump, hI_bump, hR_bump, hN_bump, hA_bump, hQ_bump, hL_bump, hn_bump, hI_sI, hR_sR, hA_sA, hQ_sQ, hL_sL, hA_cpA, isS, cat_int, cat_ref, cat_null, cat_ra, wds_nil, wds_int, wds_ref, wds_long, wds_ra, nz5, nz7, nz2, idxN, inAN, if_true, if_false, b00, b11, b01, eq_self, true_or, or_true, false_or, or_false, true_and, and_true, false_and, and_false, not_true, not_false_eq_true, Y_k151 c1.y]; done) | omega) only [iX7_carryOut_60, iX7_carryOut_61, ↓reduceIte, ofN, reduceCtorEq, Bool.false_eq_true, Nat.reduceAdd, Nat.reduceMul, Nat.reduceEqDiff, Nat.reduceLeDiff, Nat.reduceLT, le_nlt, ite_not, Nat.lt_irrefl, Decidable.not_not, kn1, kn0, knite, isS, getS, cat_int, cat_ref, cat_null, cat_ra, wds_nil, wds_int, wds_ref, wds_long, wds_ra, b0, b01, b00, b11, b10, if_true, if_false, ite_self, not_true, not_false_eq_true, true_or, or_true, false_or, or_false, true_and, and_true, false_and, and_false, eq_self, idxN, inAN, nI_add, nI_mul, nI_sub, nz5, nz7, nz2, nI_ltN, Nat.add_zero, Nat.zero_add, hK_sI, hR_sI, hN_sI, hA_sI, hQ_sI, hL_sI, hn_sI, hK_sR, hI_sR, hN_sR, hA_sR, hQ_sR, hL_sR, hn_sR, hK_sA, hI_sA, hR_sA, hN_sA, hQ_sA, hL_sA, hn_sA, hK_sQ, hI_sQ, hR_sQ, hN_sQ, hA_sQ, hL_sQ, hn_sQ, hK_sL, hI_sL, hR_sL, hN_sL, hA_sL, hQ_sL, hn_sL, hK_cpA, hI_cpA, hR_cpA, hN_cpA, hQ_cpA, hL_cpA, hn_cpA, hK_bump, hI_bump, hR_bump, hN_bump, hA_bump, hQ_bump, hL_bump, hn_bump, hI_sI, hR_sR, hA_sA, hQ_sQ, hL_sL, hA_cpA, Y_k151 c1.y]
    refine Ev_call (d_saveF c1) ?_
    rintro _ ⟨h2, rfl, f2, c2, t2⟩
    have ft2 : hI h2 125 151 = -1 := (t2 125 (by omega)).trans ft1
    have th2 : hI h2 112 151 = nI 0 := ((t2 112 (by omega)).trans f1.th).trans t0
    simp (disch := first | with_reducible assumption | exact cat_int | exact cat_ref | exact cat_null | exact cat_ra | exact Nat.le_of_ble_eq_true rfl | (simp (disch := omega) only [hK_sI, hR_sI, hN_sI, hA_sI, hQ_sI, hL_sI, hn_sI, hK_sR, hI_sR, hN_sR, hA_sR, hQ_sR, hL_sR, hn_sR, hK_sA, hI_sA, hR_sA, hN_sA, hQ_sA, hL_sA, hn_sA, hK_sQ, hI_sQ, hR_sQ, hN_sQ, hA_sQ, hL_sQ, hn_sQ, hK_sL, hI_sL, hR_sL, hN_sL, hA_sL, hQ_sL, hn_sL, hK_cpA, hI_cpA, hR_cpA, hN_cpA, hQ_cpA, hL_cpA, hn_cpA, hK_bump, hI_bump, hR_bump, hN_bump, hA_bump, hQ_bump, hL_bump, hn_bump, hI_sI, hR_sR, hA_sA, hQ_sQ, hL_sL, hA_cpA, isS, cat_int, cat_ref, cat_null, cat_ra, wds_nil, wds_int, wds_ref, wds_long, wds_ra, nz5, nz7, nz2, idxN, inAN, if_true, if_false, b00, b11, b01, eq_self, true_or, or_true, false_or, or_false, true_and, and_true, false_and, and_false, not_true, not_false_eq_true, Y_k151 c2.y]; done) | omega) only [iX7_carryOut_64, iX7_carryOut_65, iX7_carryOut_66, iX7_carryOut_69, iX7_carryOut_70, iX7_carryOut_71, iX7_carryOut_72, ↓reduceIte, ofN, reduceCtorEq, Bool.false_eq_true, Nat.reduceAdd, Nat.reduceMul, Nat.reduceEqDiff, Nat.reduceLeDiff, Nat.reduceLT, le_nlt, ite_not, Nat.lt_irrefl, Decidable.not_not, kn1, kn0, knite, isS, getS, cat_int, cat_ref, cat_null, cat_ra, wds_nil, wds_int, wds_ref, wds_long, wds_ra, b0, b01, b00, b11, b10, if_true, if_false, ite_self, not_true, not_false_eq_true, true_or, or_true, false_or, or_false, true_and, and_true, false_and, and_false, eq_self, idxN, inAN, nI_add, nI_mul, nI_sub, nz5, nz7, nz2, nI_ltN, Nat.add_zero, Nat.zero_add, hK_sI, hR_sI, hN_sI, hA_sI, hQ_sI, hL_sI, hn_sI, hK_sR, hI_sR, hN_sR, hA_sR, hQ_sR, hL_sR, hn_sR, hK_sA, hI_sA, hR_sA, hN_sA, hQ_sA, hL_sA, hn_sA, hK_sQ, hI_sQ, hR_sQ, hN_sQ, hA_sQ, hL_sQ, hn_sQ, hK_sL, hI_sL, hR_sL, hN_sL, hA_sL, hQ_sL, hn_sL, hK_cpA, hI_cpA, hR_cpA, hN_cpA, hQ_cpA, hL_cpA, hn_cpA, hK_bump, hI_bump, hR_bump, hN_bump, hA_bump, hQ_bump, hL_bump, hn_bump, hI_sI, hR_sR, hA_sA, hQ_sQ, hL_sL, hA_cpA, Y_k151 c2.y]
    have g3 : FrP h2 (sI h2 124 151 (nI 0)) := FrP.rf.w w4
    have c3 := c2.frP g3
    have ft3 : hI (sI h2 124 151 (nI 0)) 125 151 = -1 := by rw [hI_sI, if_neg (by omega)]; exact ft2
    have th3 : hI (sI h2 124 151 (nI 0)) 112 151 = nI 0 := g3.th.trans th2
    have at3 : hI (sI h2 124 151 (nI 0)) 124 151 = nI (posK tx len 0) := by rw [hI_sI, if_pos ⟨rfl, rfl⟩]; rfl
    have fa : Fr inM h (sI h2 124 151 (nI 0)) := (f0.tr f1.mm).tr ((f2.mono (fun i hi => by unfold inM; rcases hi with z | z <;> omega)).tr g3.mm)
    generalize sI h2 124 151 (nI 0) = h3 at *
    have end2 : ∀ h9 i (v2 v3 v4 : Value), i ≤ k → (∀ j, j < i → (exo tx len (posK tx len j) (exK tx len s j)).isSome = true) → (i = k ∨ exo tx len (posK tx len i) (exK tx len s i) = none) → MR h9 (exK tx len s i) (pushN m) (push m sv s) tx len → Fr inM h h9 → hI h9 112 151 = nI 0 → Ev (ev L xs mdX7_carryOut 123 [.ref 151, .int (nI i), v2, v3, v4] [] h9) (fun z => (∃ e k, e < 500 ∧ CaQ s tx len e 0 ∧ OkM h s m sv tx len (some (.int (-10 - nI e))) k z) ∨ ∃ i k, i ≤ 30 ∧ CaQ s tx len 1000 i ∧ OkM h (exK tx len s i) (pushN m) (push m sv s) tx len (some (.int (nI i))) k z) := by
      intro h9 i v2 v3 v4 hik a1 a2 c9 f9 t9
      simp (disch := first | with_reducible assumption | exact cat_int | exact cat_ref | exact cat_null | exact cat_ra | exact Nat.le_of_ble_eq_true rfl | (simp (disch := omega) only [hK_sI, hR_sI, hN_sI, hA_sI, hQ_sI, hL_sI, hn_sI, hK_sR, hI_sR, hN_sR, hA_sR, hQ_sR, hL_sR, hn_sR, hK_sA, hI_sA, hR_sA, hN_sA, hQ_sA, hL_sA, hn_sA, hK_sQ, hI_sQ, hR_sQ, hN_sQ, hA_sQ, hL_sQ, hn_sQ, hK_sL, hI_sL, hR_sL, hN_sL, hA_sL, hQ_sL, hn_sL, hK_cpA, hI_cpA, hR_cpA, hN_cpA, hQ_cpA, hL_cpA, hn_cpA, hK_bump, hI_bump, hR_bump, hN_bump, hA_bump, hQ_bump, hL_bump, hn_bump, hI_sI, hR_sR, hA_sA, hQ_sQ, hL_sL, hA_cpA, isS, cat_int, cat_ref, cat_null, cat_ra, wds_nil, wds_int, wds_ref, wds_long, wds_ra, nz5, nz7, nz2, idxN, inAN, if_true, if_false, b00, b11, b01, eq_self, true_or, or_true, false_or, or_false, true_and, and_true, false_and, and_false, not_true, not_false_eq_true, Ev_some]; done) | omega) only [iX7_carryOut_123, iX7_carryOut_124, ↓reduceIte, ofN, reduceCtorEq, Bool.false_eq_true, Nat.reduceAdd, Nat.reduceMul, Nat.reduceEqDiff, Nat.reduceLeDiff, Nat.reduceLT, le_nlt, ite_not, Nat.lt_irrefl, Decidable.not_not, kn1, kn0, knite, isS, getS, cat_int, cat_ref, cat_null, cat_ra, wds_nil, wds_int, wds_ref, wds_long, wds_ra, b0, b01, b00, b11, b10, if_true, if_false, ite_self, not_true, not_false_eq_true, true_or, or_true, false_or, or_false, true_and, and_true, false_and, and_false, eq_self, idxN, inAN, nI_add, nI_mul, nI_sub, nz5, nz7, nz2, nI_ltN, Nat.add_zero, Nat.zero_add, hK_sI, hR_sI, hN_sI, hA_sI, hQ_sI, hL_sI, hn_sI, hK_sR, hI_sR, hN_sR, hA_sR, hQ_sR, hL_sR, hn_sR, hK_sA, hI_sA, hR_sA, hN_sA, hQ_sA, hL_sA, hn_sA, hK_sQ, hI_sQ, hR_sQ, hN_sQ, hA_sQ, hL_sQ, hn_sQ, hK_sL, hI_sL, hR_sL, hN_sL, hA_sL, hQ_sL, hn_sL, hK_cpA, hI_cpA, hR_cpA, hN_cpA, hQ_cpA, hL_cpA, hn_cpA, hK_bump, hI_bump, hR_bump, hN_bump, hA_bump, hQ_bump, hL_bump, hn_bump, hI_sI, hR_sR, hA_sA, hQ_sQ, hL_sL, hA_cpA, Ev_some]
      exact Or.inr ⟨i, 0, by omega, ⟨k, ha, Or.inr ⟨hb, rfl, hik, a1, a2⟩⟩, h9, rfl, f9, c9, t9⟩
    refine Ev_loop (n := k) (fun i Ls h' => (∃ v3 v4, Ls = [.ref 151, .int (nI i), .int (nI 1), v3, v4] ∧ v3.category = 1 ∧ v4.category = 1) ∧ Fr inM h h' ∧ MR h' (exK tx len s i) (pushN m) (push m sv s) tx len ∧ hI h' 124 151 = nI (posK tx len i) ∧ hI h' 125 151 = -1 ∧ hI h' 112 151 = nI 0 ∧ ∀ j, j < i → (exo tx len (posK tx len j) (exK tx len s j)).isSome = true) ?_ ?_ (Nat.zero_le _) ⟨⟨v3, v4, rfl, hv3, hv4⟩, fa, c3, at3, ft3, th3, fun j hj => absurd hj (by omega)⟩
    · rintro i Ls h' hi ⟨⟨v3, v4, rfl, hv3, hv4⟩, f, c9, at9, ft9, th9, hs9⟩ kk
      obtain ⟨p1, p2⟩ := ha i hi
      have o9 := c9.pm at9 ft9 (by omega)
      obtain ⟨eP, ok9⟩ := exK_ok (t := tx) (len := len) hP ok i (fun j hj => (ha j (by omega)).2)
      have cb9 := exK_cB (t := tx) (len := len) hP ok cb i (fun j hj => (ha j (by omega)).2)
      have n10 : (nI 1 = nI 0) = False := by decide
      rw [iX7_carryOut_73]
      simp (disch := first | with_reducible assumption | exact cat_int | exact cat_ref | exact cat_null | exact cat_ra | exact Nat.le_of_ble_eq_true rfl | (simp (disch := omega) only [hK_sI, hR_sI, hN_sI, hA_sI, hQ_sI, hL_sI, hn_sI, hK_sR, hI_sR, hN_sR, hA_sR, hQ_sR, hL_sR, hn_sR, hK_sA, hI_sA, hR_sA, hN_sA, hQ_sA, hL_sA, hn_sA, hK_sQ, hI_sQ, hR_sQ, hN_sQ, hA_sQ, hL_sQ, hn_sQ, hK_sL, hI_sL, hR_sL, hN_sL, hA_sL, hQ_sL, hn_sL, hK_cpA, hI_cpA, hR_cpA, hN_cpA, hQ_cpA, hL_cpA, hn_cpA, hK_bump, hI_bump, hR_bump, hN_bump, hA_bump, hQ_bump, hL_bump, hn_bump, hI_sI, hR_sR, hA_sA, hQ_sQ, hL_sL, hA_cpA, isS, cat_int, cat_ref, cat_null, cat_ra, wds_nil, wds_int, wds_ref, wds_long, wds_ra, nz5, nz7, nz2, idxN, inAN, if_true, if_false, b00, b11, b01, eq_self, true_or, or_true, false_or, or_false, true_and, and_true, false_and, and_false, not_true, not_false_eq_true, Y_k151 c9.y, at9, c9.ln, p1, n10]; done) | omega) only [iX7_carryOut_74, iX7_carryOut_77, iX7_carryOut_78, iX7_carryOut_81, iX7_carryOut_82, iX7_carryOut_85, iX7_carryOut_88, iX7_carryOut_89, ↓reduceIte, ofN, reduceCtorEq, Bool.false_eq_true, Nat.reduceAdd, Nat.reduceMul, Nat.reduceEqDiff, Nat.reduceLeDiff, Nat.reduceLT, le_nlt, ite_not, Nat.lt_irrefl, Decidable.not_not, kn1, kn0, knite, isS, getS, cat_int, cat_ref, cat_null, cat_ra, wds_nil, wds_int, wds_ref, wds_long, wds_ra, b0, b01, b00, b11, b10, if_true, if_false, ite_self, not_true, not_false_eq_true, true_or, or_true, false_or, or_false, true_and, and_true, false_and, and_false, eq_self, idxN, inAN, nI_add, nI_mul, nI_sub, nz5, nz7, nz2, nI_ltN, Nat.add_zero, Nat.zero_add, hK_sI, hR_sI, hN_sI, hA_sI, hQ_sI, hL_sI, hn_sI, hK_sR, hI_sR, hN_sR, hA_sR, hQ_sR, hL_sR, hn_sR, hK_sA, hI_sA, hR_sA, hN_sA, hQ_sA, hL_sA, hn_sA, hK_sQ, hI_sQ, hR_sQ, hN_sQ, hA_sQ, hL_sQ, hn_sQ, hK_sL, hI_sL, hR_sL, hN_sL, hA_sL, hQ_sL, hn_sL, hK_cpA, hI_cpA, hR_cpA, hN_cpA, hQ_cpA, hL_cpA, hn_cpA, hK_bump, hI_bump, hR_bump, hN_bump, hA_bump, hQ_bump, hL_bump, hn_bump, hI_sI, hR_sR, hA_sA, hQ_sQ, hL_sL, hA_cpA, Y_k151 c9.y, at9, c9.ln, p1, n10]
      refine d_order o9 (by omega) ?_
      rintro h4 _ f4 r4 rfl
      have y4 := f4.1.y c9.y
      simp (disch := first | with_reducible assumption | exact cat_int | exact cat_ref | exact cat_null | exact cat_ra | exact Nat.le_of_ble_eq_true rfl | (simp (disch := omega) only [hK_sI, hR_sI, hN_sI, hA_sI, hQ_sI, hL_sI, hn_sI, hK_sR, hI_sR, hN_sR, hA_sR, hQ_sR, hL_sR, hn_sR, hK_sA, hI_sA, hR_sA, hN_sA, hQ_sA, hL_sA, hn_sA, hK_sQ, hI_sQ, hR_sQ, hN_sQ, hA_sQ, hL_sQ, hn_sQ, hK_sL, hI_sL, hR_sL, hN_sL, hA_sL, hQ_sL, hn_sL, hK_cpA, hI_cpA, hR_cpA, hN_cpA, hQ_cpA, hL_cpA, hn_cpA, hK_bump, hI_bump, hR_bump, hN_bump, hA_bump, hQ_bump, hL_bump, hn_bump, hI_sI, hR_sR, hA_sA, hQ_sQ, hL_sL, hA_cpA, isS, cat_int, cat_ref, cat_null, cat_ra, wds_nil, wds_int, wds_ref, wds_long, wds_ra, nz5, nz7, nz2, idxN, inAN, if_true, if_false, b00, b11, b01, eq_self, true_or, or_true, false_or, or_false, true_and, and_true, false_and, and_false, not_true, not_false_eq_true, Y_k151 y4]; done) | omega) only [iX7_carryOut_92, iX7_carryOut_93, iX7_carryOut_94, iX7_carryOut_95, ↓reduceIte, ofN, reduceCtorEq, Bool.false_eq_true, Nat.reduceAdd, Nat.reduceMul, Nat.reduceEqDiff, Nat.reduceLeDiff, Nat.reduceLT, le_nlt, ite_not, Nat.lt_irrefl, Decidable.not_not, kn1, kn0, knite, isS, getS, cat_int, cat_ref, cat_null, cat_ra, wds_nil, wds_int, wds_ref, wds_long, wds_ra, b0, b01, b00, b11, b10, if_true, if_false, ite_self, not_true, not_false_eq_true, true_or, or_true, false_or, or_false, true_and, and_true, false_and, and_false, eq_self, idxN, inAN, nI_add, nI_mul, nI_sub, nz5, nz7, nz2, nI_ltN, Nat.add_zero, Nat.zero_add, hK_sI, hR_sI, hN_sI, hA_sI, hQ_sI, hL_sI, hn_sI, hK_sR, hI_sR, hN_sR, hA_sR, hQ_sR, hL_sR, hn_sR, hK_sA, hI_sA, hR_sA, hN_sA, hQ_sA, hL_sA, hn_sA, hK_sQ, hI_sQ, hR_sQ, hN_sQ, hA_sQ, hL_sQ, hn_sQ, hK_sL, hI_sL, hR_sL, hN_sL, hA_sL, hQ_sL, hn_sL, hK_cpA, hI_cpA, hR_cpA, hN_cpA, hQ_cpA, hL_cpA, hn_cpA, hK_bump, hI_bump, hR_bump, hN_bump, hA_bump, hQ_bump, hL_bump, hn_bump, hI_sI, hR_sR, hA_sA, hQ_sQ, hL_sL, hA_cpA, Y_k151 y4]
      refine Ev_call r4 ?_
      rintro _ ⟨h5, d, rfl, f5, y5, z5⟩
      obtain ⟨o5, ed, en⟩ := y5 p2
      subst ed
      have f45 := f4.tr f5
      have c5 := c9.frP f45
      simp (disch := first | with_reducible assumption | exact cat_int | exact cat_ref | exact cat_null | exact cat_ra | exact Nat.le_of_ble_eq_true rfl | (simp (disch := omega) only [hK_sI, hR_sI, hN_sI, hA_sI, hQ_sI, hL_sI, hn_sI, hK_sR, hI_sR, hN_sR, hA_sR, hQ_sR, hL_sR, hn_sR, hK_sA, hI_sA, hR_sA, hN_sA, hQ_sA, hL_sA, hn_sA, hK_sQ, hI_sQ, hR_sQ, hN_sQ, hA_sQ, hL_sQ, hn_sQ, hK_sL, hI_sL, hR_sL, hN_sL, hA_sL, hQ_sL, hn_sL, hK_cpA, hI_cpA, hR_cpA, hN_cpA, hQ_cpA, hL_cpA, hn_cpA, hK_bump, hI_bump, hR_bump, hN_bump, hA_bump, hQ_bump, hL_bump, hn_bump, hI_sI, hR_sR, hA_sA, hQ_sQ, hL_sL, hA_cpA, isS, cat_int, cat_ref, cat_null, cat_ra, wds_nil, wds_int, wds_ref, wds_long, wds_ra, nz5, nz7, nz2, idxN, inAN, if_true, if_false, b00, b11, b01, eq_self, true_or, or_true, false_or, or_false, true_and, and_true, false_and, and_false, not_true, not_false_eq_true, Y_k151 c5.y]; done) | omega) only [iX7_carryOut_98, iX7_carryOut_100, iX7_carryOut_101, iX7_carryOut_102, iX7_carryOut_104, ↓reduceIte, ofN, reduceCtorEq, Bool.false_eq_true, Nat.reduceAdd, Nat.reduceMul, Nat.reduceEqDiff, Nat.reduceLeDiff, Nat.reduceLT, le_nlt, ite_not, Nat.lt_irrefl, Decidable.not_not, kn1, kn0, knite, isS, getS, cat_int, cat_ref, cat_null, cat_ra, wds_nil, wds_int, wds_ref, wds_long, wds_ra, b0, b01, b00, b11, b10, if_true, if_false, ite_self, not_true, not_false_eq_true, true_or, or_true, false_or, or_false, true_and, and_true, false_and, and_false, eq_self, idxN, inAN, nI_add, nI_mul, nI_sub, nz5, nz7, nz2, nI_ltN, Nat.add_zero, Nat.zero_add, hK_sI, hR_sI, hN_sI, hA_sI, hQ_sI, hL_sI, hn_sI, hK_sR, hI_sR, hN_sR, hA_sR, hQ_sR, hL_sR, hn_sR, hK_sA, hI_sA, hR_sA, hN_sA, hQ_sA, hL_sA, hn_sA, hK_sQ, hI_sQ, hR_sQ, hN_sQ, hA_sQ, hL_sQ, hn_sQ, hK_sL, hI_sL, hR_sL, hN_sL, hA_sL, hQ_sL, hn_sL, hK_cpA, hI_cpA, hR_cpA, hN_cpA, hQ_cpA, hL_cpA, hn_cpA, hK_bump, hI_bump, hR_bump, hN_bump, hA_bump, hQ_bump, hL_bump, hn_bump, hI_sI, hR_sR, hA_sA, hQ_sQ, hL_sL, hA_cpA, Y_k151 c5.y]
      refine Ev_call (d_carry c5.1 ok9 cb9 (by omega) p2 en) ?_
      rintro _ ⟨h6, rfl, f6, x6⟩
      have n151 : ¬ inMb 152 151 := fun z => by rcases z with q | q; exact mo151 q; omega
      have n154 : ¬ inMb 152 154 := fun z => by rcases z with q | q; have := q.1; omega; omega
      have n155 : ¬ inMb 152 155 := fun z => by rcases z with q | q; have := q.1; omega; omega
      have c6 := c5.set f6 x6 n151 n154 n155
      have f6m : Fr inM h5 h6 := f6.mono (fun i hi => by unfold inM; rcases hi with q | q; have := q.1; omega; omega)
      have f9 := (f.tr f45.mm).tr f6m
      have th6 : hI h6 112 151 = nI 0 := by rw [f6.fi n151, f45.th]; exact th9
      cases ex : exo tx len (posK tx len i) (exK tx len s i) with
      | none =>
        rw [ex] at c6
        change MR h6 (exK tx len s i) _ _ _ _ at c6
        have e0 : (none : Option SvT).isSome = true ↔ False := by simp
        simp (disch := first | with_reducible assumption | exact cat_int | exact cat_ref | exact cat_null | exact cat_ra | exact Nat.le_of_ble_eq_true rfl | (simp (disch := omega) only [hK_sI, hR_sI, hN_sI, hA_sI, hQ_sI, hL_sI, hn_sI, hK_sR, hI_sR, hN_sR, hA_sR, hQ_sR, hL_sR, hn_sR, hK_sA, hI_sA, hR_sA, hN_sA, hQ_sA, hL_sA, hn_sA, hK_sQ, hI_sQ, hR_sQ, hN_sQ, hA_sQ, hL_sQ, hn_sQ, hK_sL, hI_sL, hR_sL, hN_sL, hA_sL, hQ_sL, hn_sL, hK_cpA, hI_cpA, hR_cpA, hN_cpA, hQ_cpA, hL_cpA, hn_cpA, hK_bump, hI_bump, hR_bump, hN_bump, hA_bump, hQ_bump, hL_bump, hn_bump, hI_sI, hR_sR, hA_sA, hQ_sQ, hL_sL, hA_cpA, isS, cat_int, cat_ref, cat_null, cat_ra, wds_nil, wds_int, wds_ref, wds_long, wds_ra, nz5, nz7, nz2, idxN, inAN, if_true, if_false, b00, b11, b01, eq_self, true_or, or_true, false_or, or_false, true_and, and_true, false_and, and_false, not_true, not_false_eq_true, e0]; done) | omega) only [iX7_carryOut_73, iX7_carryOut_74, iX7_carryOut_107, iX7_carryOut_108, iX7_carryOut_109, iX7_carryOut_110, iX7_carryOut_113, iX7_carryOut_114, iX7_carryOut_117, iX7_carryOut_118, iX7_carryOut_119, iX7_carryOut_120, ↓reduceIte, ofN, reduceCtorEq, Bool.false_eq_true, Nat.reduceAdd, Nat.reduceMul, Nat.reduceEqDiff, Nat.reduceLeDiff, Nat.reduceLT, le_nlt, ite_not, Nat.lt_irrefl, Decidable.not_not, kn1, kn0, knite, isS, getS, cat_int, cat_ref, cat_null, cat_ra, wds_nil, wds_int, wds_ref, wds_long, wds_ra, b0, b01, b00, b11, b10, if_true, if_false, ite_self, not_true, not_false_eq_true, true_or, or_true, false_or, or_false, true_and, and_true, false_and, and_false, eq_self, idxN, inAN, nI_add, nI_mul, nI_sub, nz5, nz7, nz2, nI_ltN, Nat.add_zero, Nat.zero_add, hK_sI, hR_sI, hN_sI, hA_sI, hQ_sI, hL_sI, hn_sI, hK_sR, hI_sR, hN_sR, hA_sR, hQ_sR, hL_sR, hn_sR, hK_sA, hI_sA, hR_sA, hN_sA, hQ_sA, hL_sA, hn_sA, hK_sQ, hI_sQ, hR_sQ, hN_sQ, hA_sQ, hL_sQ, hn_sQ, hK_sL, hI_sL, hR_sL, hN_sL, hA_sL, hQ_sL, hn_sL, hK_cpA, hI_cpA, hR_cpA, hN_cpA, hQ_cpA, hL_cpA, hn_cpA, hK_bump, hI_bump, hR_bump, hN_bump, hA_bump, hQ_bump, hL_bump, hn_bump, hI_sI, hR_sR, hA_sA, hQ_sQ, hL_sL, hA_cpA, e0]
        exact end2 h6 i _ _ _ (by omega) hs9 (Or.inr ex) c6 f9 th6
      | some s' =>
        rw [ex] at c6
        have e3 : exK tx len s (i + 1) = s' := by
          show (exo tx len (posK tx len i) (exK tx len s i)).getD _ = s'
          rw [ex]
          rfl
        change MR h6 s' _ _ _ _ at c6
        have e0 : (some s' : Option SvT).isSome = true ↔ True := by simp
        simp (disch := first | with_reducible assumption | exact cat_int | exact cat_ref | exact cat_null | exact cat_ra | exact Nat.le_of_ble_eq_true rfl | (simp (disch := omega) only [hK_sI, hR_sI, hN_sI, hA_sI, hQ_sI, hL_sI, hn_sI, hK_sR, hI_sR, hN_sR, hA_sR, hQ_sR, hL_sR, hn_sR, hK_sA, hI_sA, hR_sA, hN_sA, hQ_sA, hL_sA, hn_sA, hK_sQ, hI_sQ, hR_sQ, hN_sQ, hA_sQ, hL_sQ, hn_sQ, hK_sL, hI_sL, hR_sL, hN_sL, hA_sL, hQ_sL, hn_sL, hK_cpA, hI_cpA, hR_cpA, hN_cpA, hQ_cpA, hL_cpA, hn_cpA, hK_bump, hI_bump, hR_bump, hN_bump, hA_bump, hQ_bump, hL_bump, hn_bump, hI_sI, hR_sR, hA_sA, hQ_sQ, hL_sL, hA_cpA, isS, cat_int, cat_ref, cat_null, cat_ra, wds_nil, wds_int, wds_ref, wds_long, wds_ra, nz5, nz7, nz2, idxN, inAN, if_true, if_false, b00, b11, b01, eq_self, true_or, or_true, false_or, or_false, true_and, and_true, false_and, and_false, not_true, not_false_eq_true, e0]; done) | omega) only [iX7_carryOut_107, iX7_carryOut_108, iX7_carryOut_109, iX7_carryOut_110, iX7_carryOut_113, iX7_carryOut_114, iX7_carryOut_117, iX7_carryOut_118, iX7_carryOut_119, iX7_carryOut_120, ↓reduceIte, ofN, reduceCtorEq, Bool.false_eq_true, Nat.reduceAdd, Nat.reduceMul, Nat.reduceEqDiff, Nat.reduceLeDiff, Nat.reduceLT, le_nlt, ite_not, Nat.lt_irrefl, Decidable.not_not, kn1, kn0, knite, isS, getS, cat_int, cat_ref, cat_null, cat_ra, wds_nil, wds_int, wds_ref, wds_long, wds_ra, b0, b01, b00, b11, b10, if_true, if_false, ite_self, not_true, not_false_eq_true, true_or, or_true, false_or, or_false, true_and, and_true, false_and, and_false, eq_self, idxN, inAN, nI_add, nI_mul, nI_sub, nz5, nz7, nz2, nI_ltN, Nat.add_zero, Nat.zero_add, hK_sI, hR_sI, hN_sI, hA_sI, hQ_sI, hL_sI, hn_sI, hK_sR, hI_sR, hN_sR, hA_sR, hQ_sR, hL_sR, hn_sR, hK_sA, hI_sA, hR_sA, hN_sA, hQ_sA, hL_sA, hn_sA, hK_sQ, hI_sQ, hR_sQ, hN_sQ, hA_sQ, hL_sQ, hn_sQ, hK_sL, hI_sL, hR_sL, hN_sL, hA_sL, hQ_sL, hn_sL, hK_cpA, hI_cpA, hR_cpA, hN_cpA, hQ_cpA, hL_cpA, hn_cpA, hK_bump, hI_bump, hR_bump, hN_bump, hA_bump, hQ_bump, hL_bump, hn_bump, hI_sI, hR_sR, hA_sA, hQ_sQ, hL_sL, hA_cpA, e0]
        refine kk _ _ ⟨⟨_, _, rfl, cat_int, cat_int⟩, f9, by rw [e3]; exact c6, ?_, ?_, th6, fun j hj => ?_⟩
        · rw [f6.fi n151]; exact o5.at
        · rw [f6.fi n151]; exact o5.ft
        · by_cases cj : j = i
          · rw [cj, ex]; rfl
          · exact hs9 j (by omega)
    · rintro Ls h' ⟨⟨v3, v4, rfl, hv3, hv4⟩, f, c9, at9, ft9, th9, hs9⟩
      have n10 : (nI 1 = nI 0) = False := by decide
      have pk : posK tx len k < 1000 := by
        by_cases z : k = 0
        · subst z
          show 0 < 1000
          omega
        · have := (ha (k - 1) (by omega)).1
          have e := (ordN_le (t := tx) (len := len) (q := posK tx len (k - 1))).2
          have e2 : posK tx len k = ordN tx len (posK tx len (k - 1)) := by
            rw [show k = k - 1 + 1 by omega]
            rfl
          omega
      rw [iX7_carryOut_73]
      simp (disch := first | with_reducible assumption | exact cat_int | exact cat_ref | exact cat_null | exact cat_ra | exact Nat.le_of_ble_eq_true rfl | (simp (disch := omega) only [hK_sI, hR_sI, hN_sI, hA_sI, hQ_sI, hL_sI, hn_sI, hK_sR, hI_sR, hN_sR, hA_sR, hQ_sR, hL_sR, hn_sR, hK_sA, hI_sA, hR_sA, hN_sA, hQ_sA, hL_sA, hn_sA, hK_sQ, hI_sQ, hR_sQ, hN_sQ, hA_sQ, hL_sQ, hn_sQ, hK_sL, hI_sL, hR_sL, hN_sL, hA_sL, hQ_sL, hn_sL, hK_cpA, hI_cpA, hR_cpA, hN_cpA, hQ_cpA, hL_cpA, hn_cpA, hK_bump, hI_bump, hR_bump, hN_bump, hA_bump, hQ_bump, hL_bump, hn_bump, hI_sI, hR_sR, hA_sA, hQ_sQ, hL_sL, hA_cpA, isS, cat_int, cat_ref, cat_null, cat_ra, wds_nil, wds_int, wds_ref, wds_long, wds_ra, nz5, nz7, nz2, idxN, inAN, if_true, if_false, b00, b11, b01, eq_self, true_or, or_true, false_or, or_false, true_and, and_true, false_and, and_false, not_true, not_false_eq_true, Y_k151 c9.y, at9, c9.ln, hb, n10]; done) | omega) only [iX7_carryOut_74, iX7_carryOut_77, iX7_carryOut_78, iX7_carryOut_81, iX7_carryOut_82, iX7_carryOut_85, ↓reduceIte, ofN, reduceCtorEq, Bool.false_eq_true, Nat.reduceAdd, Nat.reduceMul, Nat.reduceEqDiff, Nat.reduceLeDiff, Nat.reduceLT, le_nlt, ite_not, Nat.lt_irrefl, Decidable.not_not, kn1, kn0, knite, isS, getS, cat_int, cat_ref, cat_null, cat_ra, wds_nil, wds_int, wds_ref, wds_long, wds_ra, b0, b01, b00, b11, b10, if_true, if_false, ite_self, not_true, not_false_eq_true, true_or, or_true, false_or, or_false, true_and, and_true, false_and, and_false, eq_self, idxN, inAN, nI_add, nI_mul, nI_sub, nz5, nz7, nz2, nI_ltN, Nat.add_zero, Nat.zero_add, hK_sI, hR_sI, hN_sI, hA_sI, hQ_sI, hL_sI, hn_sI, hK_sR, hI_sR, hN_sR, hA_sR, hQ_sR, hL_sR, hn_sR, hK_sA, hI_sA, hR_sA, hN_sA, hQ_sA, hL_sA, hn_sA, hK_sQ, hI_sQ, hR_sQ, hN_sQ, hA_sQ, hL_sQ, hn_sQ, hK_sL, hI_sL, hR_sL, hN_sL, hA_sL, hQ_sL, hn_sL, hK_cpA, hI_cpA, hR_cpA, hN_cpA, hQ_cpA, hL_cpA, hn_cpA, hK_bump, hI_bump, hR_bump, hN_bump, hA_bump, hQ_bump, hL_bump, hn_bump, hI_sI, hR_sR, hA_sA, hQ_sQ, hL_sL, hA_cpA, Y_k151 c9.y, at9, c9.ln, hb, n10]
      exact end2 h' k _ _ _ (Nat.le_refl k) hs9 (Or.inl rfl) c9 f th9
  refine Ev_loop (n := 31) (fun i Ls h' => (∃ v1, v1.category = 1 ∧ Ls = [.ref 151, v1, .null, .null, .null]) ∧ FrP h0 h' ∧ hI h' 124 151 = nI (posK tx len i) ∧ hI h' 125 151 = -1 ∧ posK tx len i ≤ 95 ∧ ∀ j, j < i → posK tx len j < len ∧ ordE tx len (posK tx len j) = none) ?_ ?_ (Nat.zero_le _) ⟨⟨_, cat_null, rfl⟩, FrP.rf, a0, b0, by show 0 ≤ 95; omega, fun j hj => absurd hj (by omega)⟩
  · rintro i Ls h' hi ⟨⟨v1, hv1, rfl⟩, f, at9, ft9, p95, ha⟩ k
    have c9 := c0.frP f
    rw [iX7_carryOut_15]
    by_cases p1 : posK tx len i < len
    · have o9 := c9.pm at9 ft9 (by omega)
      simp (disch := first | with_reducible assumption | exact cat_int | exact cat_ref | exact cat_null | exact cat_ra | exact Nat.le_of_ble_eq_true rfl | (simp (disch := omega) only [hK_sI, hR_sI, hN_sI, hA_sI, hQ_sI, hL_sI, hn_sI, hK_sR, hI_sR, hN_sR, hA_sR, hQ_sR, hL_sR, hn_sR, hK_sA, hI_sA, hR_sA, hN_sA, hQ_sA, hL_sA, hn_sA, hK_sQ, hI_sQ, hR_sQ, hN_sQ, hA_sQ, hL_sQ, hn_sQ, hK_sL, hI_sL, hR_sL, hN_sL, hA_sL, hQ_sL, hn_sL, hK_cpA, hI_cpA, hR_cpA, hN_cpA, hQ_cpA, hL_cpA, hn_cpA, hK_bump, hI_bump, hR_bump, hN_bump, hA_bump, hQ_bump, hL_bump, hn_bump, hI_sI, hR_sR, hA_sA, hQ_sQ, hL_sL, hA_cpA, isS, cat_int, cat_ref, cat_null, cat_ra, wds_nil, wds_int, wds_ref, wds_long, wds_ra, nz5, nz7, nz2, idxN, inAN, if_true, if_false, b00, b11, b01, eq_self, true_or, or_true, false_or, or_false, true_and, and_true, false_and, and_false, not_true, not_false_eq_true, Y_k151 c9.y, at9, ft9, c9.ln, p1, m1lt]; done) | omega) only [iX7_carryOut_16, iX7_carryOut_19, iX7_carryOut_22, iX7_carryOut_23, iX7_carryOut_26, iX7_carryOut_27, iX7_carryOut_30, iX7_carryOut_33, iX7_carryOut_34, iX7_carryOut_35, ↓reduceIte, ofN, reduceCtorEq, Bool.false_eq_true, Nat.reduceAdd, Nat.reduceMul, Nat.reduceEqDiff, Nat.reduceLeDiff, Nat.reduceLT, le_nlt, ite_not, Nat.lt_irrefl, Decidable.not_not, kn1, kn0, knite, isS, getS, cat_int, cat_ref, cat_null, cat_ra, wds_nil, wds_int, wds_ref, wds_long, wds_ra, b0, b01, b00, b11, b10, if_true, if_false, ite_self, not_true, not_false_eq_true, true_or, or_true, false_or, or_false, true_and, and_true, false_and, and_false, eq_self, idxN, inAN, nI_add, nI_mul, nI_sub, nz5, nz7, nz2, nI_ltN, Nat.add_zero, Nat.zero_add, hK_sI, hR_sI, hN_sI, hA_sI, hQ_sI, hL_sI, hn_sI, hK_sR, hI_sR, hN_sR, hA_sR, hQ_sR, hL_sR, hn_sR, hK_sA, hI_sA, hR_sA, hN_sA, hQ_sA, hL_sA, hn_sA, hK_sQ, hI_sQ, hR_sQ, hN_sQ, hA_sQ, hL_sQ, hn_sQ, hK_sL, hI_sL, hR_sL, hN_sL, hA_sL, hQ_sL, hn_sL, hK_cpA, hI_cpA, hR_cpA, hN_cpA, hQ_cpA, hL_cpA, hn_cpA, hK_bump, hI_bump, hR_bump, hN_bump, hA_bump, hQ_bump, hL_bump, hn_bump, hI_sI, hR_sR, hA_sA, hQ_sQ, hL_sL, hA_cpA, Y_k151 c9.y, at9, ft9, c9.ln, p1, m1lt]
      refine d_order o9 (by omega) ?_
      rintro h4 _ f4 r4 rfl
      have y4 := f4.1.y c9.y
      simp (disch := first | with_reducible assumption | exact cat_int | exact cat_ref | exact cat_null | exact cat_ra | exact Nat.le_of_ble_eq_true rfl | (simp (disch := omega) only [hK_sI, hR_sI, hN_sI, hA_sI, hQ_sI, hL_sI, hn_sI, hK_sR, hI_sR, hN_sR, hA_sR, hQ_sR, hL_sR, hn_sR, hK_sA, hI_sA, hR_sA, hN_sA, hQ_sA, hL_sA, hn_sA, hK_sQ, hI_sQ, hR_sQ, hN_sQ, hA_sQ, hL_sQ, hn_sQ, hK_sL, hI_sL, hR_sL, hN_sL, hA_sL, hQ_sL, hn_sL, hK_cpA, hI_cpA, hR_cpA, hN_cpA, hQ_cpA, hL_cpA, hn_cpA, hK_bump, hI_bump, hR_bump, hN_bump, hA_bump, hQ_bump, hL_bump, hn_bump, hI_sI, hR_sR, hA_sA, hQ_sQ, hL_sL, hA_cpA, isS, cat_int, cat_ref, cat_null, cat_ra, wds_nil, wds_int, wds_ref, wds_long, wds_ra, nz5, nz7, nz2, idxN, inAN, if_true, if_false, b00, b11, b01, eq_self, true_or, or_true, false_or, or_false, true_and, and_true, false_and, and_false, not_true, not_false_eq_true, Y_k151 y4]; done) | omega) only [iX7_carryOut_38, ↓reduceIte, ofN, reduceCtorEq, Bool.false_eq_true, Nat.reduceAdd, Nat.reduceMul, Nat.reduceEqDiff, Nat.reduceLeDiff, Nat.reduceLT, le_nlt, ite_not, Nat.lt_irrefl, Decidable.not_not, kn1, kn0, knite, isS, getS, cat_int, cat_ref, cat_null, cat_ra, wds_nil, wds_int, wds_ref, wds_long, wds_ra, b0, b01, b00, b11, b10, if_true, if_false, ite_self, not_true, not_false_eq_true, true_or, or_true, false_or, or_false, true_and, and_true, false_and, and_false, eq_self, idxN, inAN, nI_add, nI_mul, nI_sub, nz5, nz7, nz2, nI_ltN, Nat.add_zero, Nat.zero_add, hK_sI, hR_sI, hN_sI, hA_sI, hQ_sI, hL_sI, hn_sI, hK_sR, hI_sR, hN_sR, hA_sR, hQ_sR, hL_sR, hn_sR, hK_sA, hI_sA, hR_sA, hN_sA, hQ_sA, hL_sA, hn_sA, hK_sQ, hI_sQ, hR_sQ, hN_sQ, hA_sQ, hL_sQ, hn_sQ, hK_sL, hI_sL, hR_sL, hN_sL, hA_sL, hQ_sL, hn_sL, hK_cpA, hI_cpA, hR_cpA, hN_cpA, hQ_cpA, hL_cpA, hn_cpA, hK_bump, hI_bump, hR_bump, hN_bump, hA_bump, hQ_bump, hL_bump, hn_bump, hI_sI, hR_sR, hA_sA, hQ_sQ, hL_sL, hA_cpA, Y_k151 y4]
      refine Ev_call r4 ?_
      rintro _ ⟨h5, d, rfl, f5, y5, z5⟩
      have f45 := f.tr (f4.tr f5)
      cases hE : ordE tx len (posK tx len i) with
      | none =>
        obtain ⟨o5, ed, en⟩ := y5 hE
        have on := (ordN_le (t := tx) (len := len) (q := posK tx len i)).2
        simp (disch := first | with_reducible assumption | exact cat_int | exact cat_ref | exact cat_null | exact cat_ra | exact Nat.le_of_ble_eq_true rfl | (simp (disch := omega) only [hK_sI, hR_sI, hN_sI, hA_sI, hQ_sI, hL_sI, hn_sI, hK_sR, hI_sR, hN_sR, hA_sR, hQ_sR, hL_sR, hn_sR, hK_sA, hI_sA, hR_sA, hN_sA, hQ_sA, hL_sA, hn_sA, hK_sQ, hI_sQ, hR_sQ, hN_sQ, hA_sQ, hL_sQ, hn_sQ, hK_sL, hI_sL, hR_sL, hN_sL, hA_sL, hQ_sL, hn_sL, hK_cpA, hI_cpA, hR_cpA, hN_cpA, hQ_cpA, hL_cpA, hn_cpA, hK_bump, hI_bump, hR_bump, hN_bump, hA_bump, hQ_bump, hL_bump, hn_bump, hI_sI, hR_sR, hA_sA, hQ_sQ, hL_sL, hA_cpA, isS, cat_int, cat_ref, cat_null, cat_ra, wds_nil, wds_int, wds_ref, wds_long, wds_ra, nz5, nz7, nz2, idxN, inAN, if_true, if_false, b00, b11, b01, eq_self, true_or, or_true, false_or, or_false, true_and, and_true, false_and, and_false, not_true, not_false_eq_true]; done) | omega) only [iX7_carryOut_41, iX7_carryOut_42, ↓reduceIte, ofN, reduceCtorEq, Bool.false_eq_true, Nat.reduceAdd, Nat.reduceMul, Nat.reduceEqDiff, Nat.reduceLeDiff, Nat.reduceLT, le_nlt, ite_not, Nat.lt_irrefl, Decidable.not_not, kn1, kn0, knite, isS, getS, cat_int, cat_ref, cat_null, cat_ra, wds_nil, wds_int, wds_ref, wds_long, wds_ra, b0, b01, b00, b11, b10, if_true, if_false, ite_self, not_true, not_false_eq_true, true_or, or_true, false_or, or_false, true_and, and_true, false_and, and_false, eq_self, idxN, inAN, nI_add, nI_mul, nI_sub, nz5, nz7, nz2, nI_ltN, Nat.add_zero, Nat.zero_add, hK_sI, hR_sI, hN_sI, hA_sI, hQ_sI, hL_sI, hn_sI, hK_sR, hI_sR, hN_sR, hA_sR, hQ_sR, hL_sR, hn_sR, hK_sA, hI_sA, hR_sA, hN_sA, hQ_sA, hL_sA, hn_sA, hK_sQ, hI_sQ, hR_sQ, hN_sQ, hA_sQ, hL_sQ, hn_sQ, hK_sL, hI_sL, hR_sL, hN_sL, hA_sL, hQ_sL, hn_sL, hK_cpA, hI_cpA, hR_cpA, hN_cpA, hQ_cpA, hL_cpA, hn_cpA, hK_bump, hI_bump, hR_bump, hN_bump, hA_bump, hQ_bump, hL_bump, hn_bump, hI_sI, hR_sR, hA_sA, hQ_sQ, hL_sL, hA_cpA]
        refine k _ _ ⟨⟨_, cat_int, rfl⟩, f45, o5.at, o5.ft, by show ordN tx len (posK tx len i) ≤ 95; omega, fun j hj => ?_⟩
        by_cases cj : j = i
        · rw [cj]; exact ⟨p1, hE⟩
        · exact ha j (by omega)
      | some e =>
        obtain ⟨ft5, he⟩ := z5 e hE
        have c5 := c0.frP f45
        have z0 : ¬ e < 0 := by omega
        simp (disch := first | with_reducible assumption | exact cat_int | exact cat_ref | exact cat_null | exact cat_ra | exact Nat.le_of_ble_eq_true rfl | (simp (disch := omega) only [hK_sI, hR_sI, hN_sI, hA_sI, hQ_sI, hL_sI, hn_sI, hK_sR, hI_sR, hN_sR, hA_sR, hQ_sR, hL_sR, hn_sR, hK_sA, hI_sA, hR_sA, hN_sA, hQ_sA, hL_sA, hn_sA, hK_sQ, hI_sQ, hR_sQ, hN_sQ, hA_sQ, hL_sQ, hn_sQ, hK_sL, hI_sL, hR_sL, hN_sL, hA_sL, hQ_sL, hn_sL, hK_cpA, hI_cpA, hR_cpA, hN_cpA, hQ_cpA, hL_cpA, hn_cpA, hK_bump, hI_bump, hR_bump, hN_bump, hA_bump, hQ_bump, hL_bump, hn_bump, hI_sI, hR_sR, hA_sA, hQ_sQ, hL_sL, hA_cpA, isS, cat_int, cat_ref, cat_null, cat_ra, wds_nil, wds_int, wds_ref, wds_long, wds_ra, nz5, nz7, nz2, idxN, inAN, if_true, if_false, b00, b11, b01, eq_self, true_or, or_true, false_or, or_false, true_and, and_true, false_and, and_false, not_true, not_false_eq_true, Y_k151 c5.y, ft5, z0, Ev_some]; done) | omega) only [iX7_carryOut_15, iX7_carryOut_16, iX7_carryOut_19, iX7_carryOut_41, iX7_carryOut_42, iX7_carryOut_45, iX7_carryOut_46, iX7_carryOut_49, iX7_carryOut_52, iX7_carryOut_54, iX7_carryOut_55, iX7_carryOut_58, iX7_carryOut_59, ↓reduceIte, ofN, reduceCtorEq, Bool.false_eq_true, Nat.reduceAdd, Nat.reduceMul, Nat.reduceEqDiff, Nat.reduceLeDiff, Nat.reduceLT, le_nlt, ite_not, Nat.lt_irrefl, Decidable.not_not, kn1, kn0, knite, isS, getS, cat_int, cat_ref, cat_null, cat_ra, wds_nil, wds_int, wds_ref, wds_long, wds_ra, b0, b01, b00, b11, b10, if_true, if_false, ite_self, not_true, not_false_eq_true, true_or, or_true, false_or, or_false, true_and, and_true, false_and, and_false, eq_self, idxN, inAN, nI_add, nI_mul, nI_sub, nz5, nz7, nz2, nI_ltN, Nat.add_zero, Nat.zero_add, hK_sI, hR_sI, hN_sI, hA_sI, hQ_sI, hL_sI, hn_sI, hK_sR, hI_sR, hN_sR, hA_sR, hQ_sR, hL_sR, hn_sR, hK_sA, hI_sA, hR_sA, hN_sA, hQ_sA, hL_sA, hn_sA, hK_sQ, hI_sQ, hR_sQ, hN_sQ, hA_sQ, hL_sQ, hn_sQ, hK_sL, hI_sL, hR_sL, hN_sL, hA_sL, hQ_sL, hn_sL, hK_cpA, hI_cpA, hR_cpA, hN_cpA, hQ_cpA, hL_cpA, hn_cpA, hK_bump, hI_bump, hR_bump, hN_bump, hA_bump, hQ_bump, hL_bump, hn_bump, hI_sI, hR_sR, hA_sA, hQ_sQ, hL_sL, hA_cpA, Y_k151 c5.y, ft5, z0, Ev_some]
        exact Or.inl ⟨e, 0, he, ⟨i, ha, Or.inl ⟨p1, hE, rfl⟩⟩, h5, rfl, f0.tr f45.mm, c5, f45.th.trans t0⟩
    · simp (disch := first | with_reducible assumption | exact cat_int | exact cat_ref | exact cat_null | exact cat_ra | exact Nat.le_of_ble_eq_true rfl | (simp (disch := omega) only [hK_sI, hR_sI, hN_sI, hA_sI, hQ_sI, hL_sI, hn_sI, hK_sR, hI_sR, hN_sR, hA_sR, hQ_sR, hL_sR, hn_sR, hK_sA, hI_sA, hR_sA, hN_sA, hQ_sA, hL_sA, hn_sA, hK_sQ, hI_sQ, hR_sQ, hN_sQ, hA_sQ, hL_sQ, hn_sQ, hK_sL, hI_sL, hR_sL, hN_sL, hA_sL, hQ_sL, hn_sL, hK_cpA, hI_cpA, hR_cpA, hN_cpA, hQ_cpA, hL_cpA, hn_cpA, hK_bump, hI_bump, hR_bump, hN_bump, hA_bump, hQ_bump, hL_bump, hn_bump, hI_sI, hR_sR, hA_sA, hQ_sQ, hL_sL, hA_cpA, isS, cat_int, cat_ref, cat_null, cat_ra, wds_nil, wds_int, wds_ref, wds_long, wds_ra, nz5, nz7, nz2, idxN, inAN, if_true, if_false, b00, b11, b01, eq_self, true_or, or_true, false_or, or_false, true_and, and_true, false_and, and_false, not_true, not_false_eq_true, Y_k151 c9.y, at9, ft9, c9.ln, p1, m1lt]; done) | omega) only [iX7_carryOut_16, iX7_carryOut_19, iX7_carryOut_22, iX7_carryOut_23, iX7_carryOut_26, iX7_carryOut_27, iX7_carryOut_30, iX7_carryOut_45, iX7_carryOut_46, iX7_carryOut_49, ↓reduceIte, ofN, reduceCtorEq, Bool.false_eq_true, Nat.reduceAdd, Nat.reduceMul, Nat.reduceEqDiff, Nat.reduceLeDiff, Nat.reduceLT, le_nlt, ite_not, Nat.lt_irrefl, Decidable.not_not, kn1, kn0, knite, isS, getS, cat_int, cat_ref, cat_null, cat_ra, wds_nil, wds_int, wds_ref, wds_long, wds_ra, b0, b01, b00, b11, b10, if_true, if_false, ite_self, not_true, not_false_eq_true, true_or, or_true, false_or, or_false, true_and, and_true, false_and, and_false, eq_self, idxN, inAN, nI_add, nI_mul, nI_sub, nz5, nz7, nz2, nI_ltN, Nat.add_zero, Nat.zero_add, hK_sI, hR_sI, hN_sI, hA_sI, hQ_sI, hL_sI, hn_sI, hK_sR, hI_sR, hN_sR, hA_sR, hQ_sR, hL_sR, hn_sR, hK_sA, hI_sA, hR_sA, hN_sA, hQ_sA, hL_sA, hn_sA, hK_sQ, hI_sQ, hR_sQ, hN_sQ, hA_sQ, hL_sQ, hn_sQ, hK_sL, hI_sL, hR_sL, hN_sL, hA_sL, hQ_sL, hn_sL, hK_cpA, hI_cpA, hR_cpA, hN_cpA, hQ_cpA, hL_cpA, hn_cpA, hK_bump, hI_bump, hR_bump, hN_bump, hA_bump, hQ_bump, hL_bump, hn_bump, hI_sI, hR_sR, hA_sA, hQ_sQ, hL_sL, hA_cpA, Y_k151 c9.y, at9, ft9, c9.ln, p1, m1lt]
      exact second h' i v1 _ _ _ f ft9 ha p1 (by have := posK_ge (t := tx) (len := len) (k := i - 1); by_cases z : i = 0; omega; have q := (ha (i - 1) (by omega)).1; omega) cat_null cat_null cat_null hv1
  · rintro Ls h' ⟨⟨v1, hv1, rfl⟩, f, at9, ft9, p95, ha⟩
    exfalso
    have := posK_ge (t := tx) (len := len) (k := 30)
    have q := (ha 30 (by omega)).1
    omega
end
