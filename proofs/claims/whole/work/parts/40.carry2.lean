/-! carryOut -/
def okS (s : SvT) : Prop := ownOK s.1 s.2.2.1 s.2.2.2.1 ∧ stepOK s.1 s.2.2.2.1
theorem own_pu {r : Rw} {P G k : Nat} {v : Int32} (hk : ∀ g, ¬ k = 95 + 9 * g) (hO : ownOK r P G) : ownOK (pu r k v) P G := by
  intro g hg
  have : pu r k v (95 + 9 * g) = r (95 + 9 * g) := if_neg (fun z => hk g z.symm)
  rw [this]
  exact hO g hg
theorem step_pu {r : Rw} {G k : Nat} {v : Int32} (hk : ∀ g, ¬ k = 96 + 9 * g) (hs : stepOK r G) : stepOK (pu r k v) G := by
  intro g hg
  have : pu r k v (96 + 9 * g) = r (96 + 9 * g) := if_neg (fun z => hk g z.symm)
  rw [this]
  exact hs g hg
theorem complR_hi {r : Rw} {p n k : Nat} (hp : p < 8) (hk : 93 ≤ k) : complR r p n k = r k := by
  unfold complR
  rw [if_neg (by omega), if_neg (by omega), if_neg (by omega), if_neg (by omega)]
theorem exo_ok {t : Rw} {len q : Nat} {s s' : SvT} (hP : s.2.2.1 ≤ 8) (e : ordE t len q = none) (ex : exo t len q s = some s') (ok : okS s) : okS s' := by
  obtain ⟨r, H, P, G, n⟩ := s
  change P ≤ 8 at hP
  obtain ⟨hO, hs9⟩ := ok
  change ownOK r P G at hO
  change stepOK r G at hs9
  by_cases k1 : bt t len q = nI 100
  · obtain ⟨d, d1, d2, ed⟩ := ord_kd e k1
    rw [exo_d k1 ed d2] at ex
    split at ex
    · cases ex
      exact goN_ok hP hO hs9 _
    · cases ex
  · by_cases k2 : bt t len q = nI 115
    · obtain ⟨d, g, d1, d2, g1, ed, eg⟩ := ord_ks e k1 k2
      rw [exo_s k1 k2 ed eg g1] at ex
      split at ex
      · cases ex
        exact ⟨own_pu (fun j => by omega) hO, step_pu (fun j => by omega) hs9⟩
      · cases ex
    · obtain ⟨k3, p, p1, ep⟩ := ord_kc e k1 k2
      rw [exo_c k1 k2 ep p1] at ex
      split at ex
      · cases ex
        refine ⟨?_, ?_⟩
        · show ownOK (complR r p n) P G
          intro g hg
          rw [complR_hi (by omega) (by omega)]
          exact hO g hg
        · show stepOK (complR r p n) G
          intro g hg
          rw [complR_hi (by omega) (by omega)]
          exact hs9 g hg
      · cases ex
/-- carryOut's answer: the text is at fault at e, or i of k orders are carried out -/
def CaQ (s : SvT) (tx : Rw) (len : Nat) (e i : Nat) : Prop := ∃ k, (∀ j, j < k → posK tx len j < len ∧ ordE tx len (posK tx len j) = none) ∧ ((posK tx len k < len ∧ ordE tx len (posK tx len k) = some e ∧ i = 0) ∨ (¬ posK tx len k < len ∧ e = 1000 ∧ i ≤ k ∧ (∀ j, j < i → (exo tx len (posK tx len j) (exK tx len s j)).isSome = true) ∧ (i = k ∨ exo tx len (posK tx len i) (exK tx len s i) = none)))
theorem CaQ_one {s : SvT} {tx : Rw} {len e i e' i' : Nat} (h : CaQ s tx len e i) (h' : CaQ s tx len e' i') (he : e < 500 ∨ e = 1000) (he' : e' < 500 ∨ e' = 1000) : e = e' ∧ i = i' := by
  obtain ⟨k, a1, a2⟩ := h
  obtain ⟨k', b1, b2⟩ := h'
  have kk : k = k' := by
    rcases Nat.lt_trichotomy k k' with z | z | z
    · have := b1 k z
      rcases a2 with a2 | a2
      · rw [this.2] at a2; cases a2.2.1
      · exact absurd this.1 a2.1
    · exact z
    · have := a1 k' z
      rcases b2 with b2 | b2
      · rw [this.2] at b2; cases b2.2.1
      · exact absurd this.1 b2.1
  subst kk
  rcases a2 with ⟨a2, a3, a4⟩ | ⟨a2, a3, a4, a5, a6⟩ <;> rcases b2 with ⟨b2, b3, b4⟩ | ⟨b2, b3, b4, b5, b6⟩
  · rw [a3] at b3
    cases b3
    exact ⟨rfl, by omega⟩
  · exact absurd a2 b2
  · exact absurd b2 a2
  · refine ⟨by omega, ?_⟩
    rcases Nat.lt_trichotomy i i' with z | z | z
    · have := b5 i z
      rcases a6 with a6 | a6
      · omega
      · rw [a6] at this; cases this
    · exact z
    · have := a5 i' z
      rcases b6 with b6 | b6
      · omega
      · rw [b6] at this; cases this
section
variable {L : Nat} {xs : Nat → Int32} {h h2 h3 : AH} {s : SvT} {m len : Nat} {sv : Nat → SvT} {tx : Rw} {r : Rw} {H P G n i q : Nat}
theorem CR.P8 (c : CR h s m sv tx len) : s.2.2.1 ≤ 8 := by
  have R := c.2.2.1
  exact R.P8
theorem CR.or5 (c : CR h s m sv tx len) (f : Fr inOr h h2) (e1 : hA h2 55 = tx) (e2 : hI h2 17 54 = nI len) : CR h2 s m sv tx len :=
  c.fo (f.mono (fun i hi => by unfold inOr at hi; omega)) e1 e2 c.l9
theorem a_carry (c : CR h s m sv tx len) (ok : okS s) : Ev (ev L xs mdX6_carryOut 0 [.ref 0, .null] [] h) (fun z => (∃ e, e < 500 ∧ CaQ s tx len e 0 ∧ OkC h s m sv tx len (some (.int (-10 - nI e))) z) ∨ ∃ i, i ≤ 30 ∧ CaQ s tx len 1000 i ∧ OkC h (exK tx len s i) (pushN m) (push m sv s) tx len (some (.int (nI i))) z) := by
  simp (disch := first | with_reducible assumption | exact cat_int | exact cat_ref | exact cat_null | exact cat_ra | exact Nat.le_of_ble_eq_true rfl | (simp (disch := omega) only [hK_sI, hR_sI, hN_sI, hA_sI, hQ_sI, hL_sI, hn_sI, hK_sR, hI_sR, hN_sR, hA_sR, hQ_sR, hL_sR, hn_sR, hK_sA, hI_sA, hR_sA, hN_sA, hQ_sA, hL_sA, hn_sA, hK_sQ, hI_sQ, hR_sQ, hN_sQ, hA_sQ, hL_sQ, hn_sQ, hK_sL, hI_sL, hR_sL, hN_sL, hA_sL, hQ_sL, hn_sL, hK_cpA, hI_cpA, hR_cpA, hN_cpA, hQ_cpA, hL_cpA, hn_cpA, hK_bump, hI_bump, hR_bump, hN_bump, hA_bump, hQ_bump, hL_bump, hn_bump, hI_sI, hR_sR, hA_sA, hQ_sQ, hL_sL, hA_cpA, isS, cat_int, cat_ref, cat_null, cat_ra, wds_nil, wds_int, wds_ref, wds_long, wds_ra, nz5, nz7, nz2, idxN, inAN, if_true, if_false, b00, b11, b01, eq_self, true_or, or_true, false_or, or_false, true_and, and_true, false_and, and_false, not_true, not_false_eq_true, Y_k0 c.y, Y_k54 c.y, Y_r102 c.y]; done) | omega) only [iX6_carryOut_0, iX6_carryOut_1, iX6_carryOut_4, ↓reduceIte, ofN, reduceCtorEq, Bool.false_eq_true, Nat.reduceAdd, Nat.reduceMul, Nat.reduceEqDiff, Nat.reduceLeDiff, Nat.reduceLT, le_nlt, ite_not, Nat.lt_irrefl, Decidable.not_not, kn1, kn0, knite, isS, getS, cat_int, cat_ref, cat_null, cat_ra, wds_nil, wds_int, wds_ref, wds_long, wds_ra, b0, b01, b00, b11, b10, if_true, if_false, ite_self, not_true, not_false_eq_true, true_or, or_true, false_or, or_false, true_and, and_true, false_and, and_false, eq_self, idxN, inAN, nI_add, nI_mul, nI_sub, nz5, nz7, nz2, nI_ltN, Nat.add_zero, Nat.zero_add, hK_sI, hR_sI, hN_sI, hA_sI, hQ_sI, hL_sI, hn_sI, hK_sR, hI_sR, hN_sR, hA_sR, hQ_sR, hL_sR, hn_sR, hK_sA, hI_sA, hR_sA, hN_sA, hQ_sA, hL_sA, hn_sA, hK_sQ, hI_sQ, hR_sQ, hN_sQ, hA_sQ, hL_sQ, hn_sQ, hK_sL, hI_sL, hR_sL, hN_sL, hA_sL, hQ_sL, hn_sL, hK_cpA, hI_cpA, hR_cpA, hN_cpA, hQ_cpA, hL_cpA, hn_cpA, hK_bump, hI_bump, hR_bump, hN_bump, hA_bump, hQ_bump, hL_bump, hn_bump, hI_sI, hR_sR, hA_sA, hQ_sQ, hL_sL, hA_cpA, Y_k0 c.y, Y_k54 c.y, Y_r102 c.y]
  refine Ev_call (s_read c.y c.txt c.le c.l9) ?_
  rintro _ ⟨h1, k, q, k30, f1, o1, a1, (⟨b1, b2, rfl⟩ | ⟨b1, rfl, b2, b3⟩)⟩
  · have c1 := c.or5 f1 o1.tx o1.l
    have q9 := o1.q9
    simp (disch := first | with_reducible assumption | exact cat_int | exact cat_ref | exact cat_null | exact cat_ra | exact Nat.le_of_ble_eq_true rfl | (simp (disch := omega) only [hK_sI, hR_sI, hN_sI, hA_sI, hQ_sI, hL_sI, hn_sI, hK_sR, hI_sR, hN_sR, hA_sR, hQ_sR, hL_sR, hn_sR, hK_sA, hI_sA, hR_sA, hN_sA, hQ_sA, hL_sA, hn_sA, hK_sQ, hI_sQ, hR_sQ, hN_sQ, hA_sQ, hL_sQ, hn_sQ, hK_sL, hI_sL, hR_sL, hN_sL, hA_sL, hQ_sL, hn_sL, hK_cpA, hI_cpA, hR_cpA, hN_cpA, hQ_cpA, hL_cpA, hn_cpA, hK_bump, hI_bump, hR_bump, hN_bump, hA_bump, hQ_bump, hL_bump, hn_bump, hI_sI, hR_sR, hA_sA, hQ_sQ, hL_sL, hA_cpA, isS, cat_int, cat_ref, cat_null, cat_ra, wds_nil, wds_int, wds_ref, wds_long, wds_ra, nz5, nz7, nz2, idxN, inAN, if_true, if_false, b00, b11, b01, eq_self, true_or, or_true, false_or, or_false, true_and, and_true, false_and, and_false, not_true, not_false_eq_true, Y_k0 c1.y, Y_k54 c1.y, Y_r102 c1.y, o1.at, Ev_some]; done) | omega) only [iX6_carryOut_7, iX6_carryOut_10, iX6_carryOut_12, iX6_carryOut_13, iX6_carryOut_16, iX6_carryOut_19, iX6_carryOut_20, ↓reduceIte, ofN, reduceCtorEq, Bool.false_eq_true, Nat.reduceAdd, Nat.reduceMul, Nat.reduceEqDiff, Nat.reduceLeDiff, Nat.reduceLT, le_nlt, ite_not, Nat.lt_irrefl, Decidable.not_not, kn1, kn0, knite, isS, getS, cat_int, cat_ref, cat_null, cat_ra, wds_nil, wds_int, wds_ref, wds_long, wds_ra, b0, b01, b00, b11, b10, if_true, if_false, ite_self, not_true, not_false_eq_true, true_or, or_true, false_or, or_false, true_and, and_true, false_and, and_false, eq_self, idxN, inAN, nI_add, nI_mul, nI_sub, nz5, nz7, nz2, nI_ltN, Nat.add_zero, Nat.zero_add, hK_sI, hR_sI, hN_sI, hA_sI, hQ_sI, hL_sI, hn_sI, hK_sR, hI_sR, hN_sR, hA_sR, hQ_sR, hL_sR, hn_sR, hK_sA, hI_sA, hR_sA, hN_sA, hQ_sA, hL_sA, hn_sA, hK_sQ, hI_sQ, hR_sQ, hN_sQ, hA_sQ, hL_sQ, hn_sQ, hK_sL, hI_sL, hR_sL, hN_sL, hA_sL, hQ_sL, hn_sL, hK_cpA, hI_cpA, hR_cpA, hN_cpA, hQ_cpA, hL_cpA, hn_cpA, hK_bump, hI_bump, hR_bump, hN_bump, hA_bump, hQ_bump, hL_bump, hn_bump, hI_sI, hR_sR, hA_sA, hQ_sQ, hL_sL, hA_cpA, Y_k0 c1.y, Y_k54 c1.y, Y_r102 c1.y, o1.at, Ev_some]
    exact Or.inl ⟨q, by omega, ⟨k, a1, Or.inl ⟨b1, b2, rfl⟩⟩, h1, rfl, f1.c (fun i hi => by unfold inOr at hi; omega), f1.2.2.2.2.2.1, f1.2.2.2.2.2.2.1, c1⟩
  · have c1 := c.or5 f1 o1.tx o1.l
    have f1' : FrC h h1 := f1.c (fun i hi => by unfold inOr at hi; omega)
    simp (disch := first | with_reducible assumption | exact cat_int | exact cat_ref | exact cat_null | exact cat_ra | exact Nat.le_of_ble_eq_true rfl | (simp (disch := omega) only [hK_sI, hR_sI, hN_sI, hA_sI, hQ_sI, hL_sI, hn_sI, hK_sR, hI_sR, hN_sR, hA_sR, hQ_sR, hL_sR, hn_sR, hK_sA, hI_sA, hR_sA, hN_sA, hQ_sA, hL_sA, hn_sA, hK_sQ, hI_sQ, hR_sQ, hN_sQ, hA_sQ, hL_sQ, hn_sQ, hK_sL, hI_sL, hR_sL, hN_sL, hA_sL, hQ_sL, hn_sL, hK_cpA, hI_cpA, hR_cpA, hN_cpA, hQ_cpA, hL_cpA, hn_cpA, hK_bump, hI_bump, hR_bump, hN_bump, hA_bump, hQ_bump, hL_bump, hn_bump, hI_sI, hR_sR, hA_sA, hQ_sQ, hL_sL, hA_cpA, isS, cat_int, cat_ref, cat_null, cat_ra, wds_nil, wds_int, wds_ref, wds_long, wds_ra, nz5, nz7, nz2, idxN, inAN, if_true, if_false, b00, b11, b01, eq_self, true_or, or_true, false_or, or_false, true_and, and_true, false_and, and_false, not_true, not_false_eq_true, Y_k0 c1.y]; done) | omega) only [iX6_carryOut_7, iX6_carryOut_21, iX6_carryOut_22, ↓reduceIte, ofN, reduceCtorEq, Bool.false_eq_true, Nat.reduceAdd, Nat.reduceMul, Nat.reduceEqDiff, Nat.reduceLeDiff, Nat.reduceLT, le_nlt, ite_not, Nat.lt_irrefl, Decidable.not_not, kn1, kn0, knite, isS, getS, cat_int, cat_ref, cat_null, cat_ra, wds_nil, wds_int, wds_ref, wds_long, wds_ra, b0, b01, b00, b11, b10, if_true, if_false, ite_self, not_true, not_false_eq_true, true_or, or_true, false_or, or_false, true_and, and_true, false_and, and_false, eq_self, idxN, inAN, nI_add, nI_mul, nI_sub, nz5, nz7, nz2, nI_ltN, Nat.add_zero, Nat.zero_add, hK_sI, hR_sI, hN_sI, hA_sI, hQ_sI, hL_sI, hn_sI, hK_sR, hI_sR, hN_sR, hA_sR, hQ_sR, hL_sR, hn_sR, hK_sA, hI_sA, hR_sA, hN_sA, hQ_sA, hL_sA, hn_sA, hK_sQ, hI_sQ, hR_sQ, hN_sQ, hA_sQ, hL_sQ, hn_sQ, hK_sL, hI_sL, hR_sL, hN_sL, hA_sL, hQ_sL, hn_sL, hK_cpA, hI_cpA, hR_cpA, hN_cpA, hQ_cpA, hL_cpA, hn_cpA, hK_bump, hI_bump, hR_bump, hN_bump, hA_bump, hQ_bump, hL_bump, hn_bump, hI_sI, hR_sR, hA_sA, hQ_sQ, hL_sL, hA_cpA, Y_k0 c1.y]
    refine Ev_call (s_saveO c1) ?_
    rintro _ ⟨h2, rfl, f2, fo, d1, d2, c2⟩
    obtain ⟨g1, g2⟩ := fo
    have j1 : hI h2 21 54 = nI k := (g1 21).trans b2
    have j2 : ∀ j, j < k → hA h2 56 j = bt tx len (posK tx len j) ∧ hA h2 57 j = ordT tx len (posK tx len j) ∧ hA h2 58 j = ordD tx len (posK tx len j) := by
      intro j hj
      rw [g2 56 j (by omega) (by omega), g2 57 j (by omega) (by omega), g2 58 j (by omega) (by omega)]
      exact b3 j hj
    simp (disch := first | with_reducible assumption | exact cat_int | exact cat_ref | exact cat_null | exact cat_ra | exact Nat.le_of_ble_eq_true rfl | (simp (disch := omega) only [hK_sI, hR_sI, hN_sI, hA_sI, hQ_sI, hL_sI, hn_sI, hK_sR, hI_sR, hN_sR, hA_sR, hQ_sR, hL_sR, hn_sR, hK_sA, hI_sA, hR_sA, hN_sA, hQ_sA, hL_sA, hn_sA, hK_sQ, hI_sQ, hR_sQ, hN_sQ, hA_sQ, hL_sQ, hn_sQ, hK_sL, hI_sL, hR_sL, hN_sL, hA_sL, hQ_sL, hn_sL, hK_cpA, hI_cpA, hR_cpA, hN_cpA, hQ_cpA, hL_cpA, hn_cpA, hK_bump, hI_bump, hR_bump, hN_bump, hA_bump, hQ_bump, hL_bump, hn_bump, hI_sI, hR_sR, hA_sA, hQ_sQ, hL_sL, hA_cpA, isS, cat_int, cat_ref, cat_null, cat_ra, wds_nil, wds_int, wds_ref, wds_long, wds_ra, nz5, nz7, nz2, idxN, inAN, if_true, if_false, b00, b11, b01, eq_self, true_or, or_true, false_or, or_false, true_and, and_true, false_and, and_false, not_true, not_false_eq_true]; done) | omega) only [iX6_carryOut_25, iX6_carryOut_26, ↓reduceIte, ofN, reduceCtorEq, Bool.false_eq_true, Nat.reduceAdd, Nat.reduceMul, Nat.reduceEqDiff, Nat.reduceLeDiff, Nat.reduceLT, le_nlt, ite_not, Nat.lt_irrefl, Decidable.not_not, kn1, kn0, knite, isS, getS, cat_int, cat_ref, cat_null, cat_ra, wds_nil, wds_int, wds_ref, wds_long, wds_ra, b0, b01, b00, b11, b10, if_true, if_false, ite_self, not_true, not_false_eq_true, true_or, or_true, false_or, or_false, true_and, and_true, false_and, and_false, eq_self, idxN, inAN, nI_add, nI_mul, nI_sub, nz5, nz7, nz2, nI_ltN, Nat.add_zero, Nat.zero_add, hK_sI, hR_sI, hN_sI, hA_sI, hQ_sI, hL_sI, hn_sI, hK_sR, hI_sR, hN_sR, hA_sR, hQ_sR, hL_sR, hn_sR, hK_sA, hI_sA, hR_sA, hN_sA, hQ_sA, hL_sA, hn_sA, hK_sQ, hI_sQ, hR_sQ, hN_sQ, hA_sQ, hL_sQ, hn_sQ, hK_sL, hI_sL, hR_sL, hN_sL, hA_sL, hQ_sL, hn_sL, hK_cpA, hI_cpA, hR_cpA, hN_cpA, hQ_cpA, hL_cpA, hn_cpA, hK_bump, hI_bump, hR_bump, hN_bump, hA_bump, hQ_bump, hL_bump, hn_bump, hI_sI, hR_sR, hA_sA, hQ_sQ, hL_sL, hA_cpA]
    refine Ev_loop (n := k) (fun i Ls h' => Ls = [.ref 0, .int (nI i)] ∧ Fr (inTk 1) h2 h' ∧ RlS h' 1 (exK tx len s i) ∧ okS (exK tx len s i) ∧ ∀ j, j < i → (exo tx len (posK tx len j) (exK tx len s j)).isSome = true) ?_ ?_ (Nat.zero_le _) ⟨rfl, Fr.rfl, c2.2.2.1, ok, fun j hj => absurd hj (by omega)⟩
    · rintro i Ls h' hi ⟨rfl, f, R, ok2, hs9⟩ kk
      have c3 := c2.set f R (fun i hi => in1T hi)
      obtain ⟨a56, a57, a58⟩ := j2 i hi
      have n56 : ∀ i, 54 ≤ i → i < 59 → ¬ inTk 1 i := by
        rintro i z1 z2 (z | z)
        · have := z.1; have := z.2; omega
        · omega
      rw [← f.ar (n56 56 (by omega) (by omega))] at a56
      rw [← f.ar (n56 57 (by omega) (by omega))] at a57
      rw [← f.ar (n56 58 (by omega) (by omega))] at a58
      have j3 : hI h' 21 54 = nI k := by rw [f.fi (n56 54 (by omega) (by omega))]; exact j1
      have eo := (a1 i hi).2
      rw [iX6_carryOut_27]
      cases ex : exo tx len (posK tx len i) (exK tx len s i) with
      | none =>
        have cn : ev L xs mdX6_carriesOut 0 [.ref 0, .int (nI i), .null, .null] [] h' = some (.inl (some (.int (nI 0)), h')) := car_n (r := (exK tx len s i).1) (H := (exK tx len s i).2.1) (P := (exK tx len s i).2.2.1) (G := (exK tx len s i).2.2.2.1) (n := (exK tx len s i).2.2.2.2) c3 (by omega) eo a56 a57 a58 ex
        simp (disch := first | with_reducible assumption | exact cat_int | exact cat_ref | exact cat_null | exact cat_ra | exact Nat.le_of_ble_eq_true rfl | (simp (disch := omega) only [hK_sI, hR_sI, hN_sI, hA_sI, hQ_sI, hL_sI, hn_sI, hK_sR, hI_sR, hN_sR, hA_sR, hQ_sR, hL_sR, hn_sR, hK_sA, hI_sA, hR_sA, hN_sA, hQ_sA, hL_sA, hn_sA, hK_sQ, hI_sQ, hR_sQ, hN_sQ, hA_sQ, hL_sQ, hn_sQ, hK_sL, hI_sL, hR_sL, hN_sL, hA_sL, hQ_sL, hn_sL, hK_cpA, hI_cpA, hR_cpA, hN_cpA, hQ_cpA, hL_cpA, hn_cpA, hK_bump, hI_bump, hR_bump, hN_bump, hA_bump, hQ_bump, hL_bump, hn_bump, hI_sI, hR_sR, hA_sA, hQ_sQ, hL_sL, hA_cpA, isS, cat_int, cat_ref, cat_null, cat_ra, wds_nil, wds_int, wds_ref, wds_long, wds_ra, nz5, nz7, nz2, idxN, inAN, if_true, if_false, b00, b11, b01, eq_self, true_or, or_true, false_or, or_false, true_and, and_true, false_and, and_false, not_true, not_false_eq_true, Y_k0 c3.y, Y_k54 c3.y, Y_r102 c3.y, j3, hi, cn, Ev_some]; done) | omega) only [iX6_carryOut_28, iX6_carryOut_29, iX6_carryOut_32, iX6_carryOut_35, iX6_carryOut_38, iX6_carryOut_39, iX6_carryOut_40, iX6_carryOut_43, iX6_carryOut_46, iX6_carryOut_49, iX6_carryOut_52, iX6_carryOut_53, ↓reduceIte, ofN, reduceCtorEq, Bool.false_eq_true, Nat.reduceAdd, Nat.reduceMul, Nat.reduceEqDiff, Nat.reduceLeDiff, Nat.reduceLT, le_nlt, ite_not, Nat.lt_irrefl, Decidable.not_not, kn1, kn0, knite, isS, getS, cat_int, cat_ref, cat_null, cat_ra, wds_nil, wds_int, wds_ref, wds_long, wds_ra, b0, b01, b00, b11, b10, if_true, if_false, ite_self, not_true, not_false_eq_true, true_or, or_true, false_or, or_false, true_and, and_true, false_and, and_false, eq_self, idxN, inAN, nI_add, nI_mul, nI_sub, nz5, nz7, nz2, nI_ltN, Nat.add_zero, Nat.zero_add, hK_sI, hR_sI, hN_sI, hA_sI, hQ_sI, hL_sI, hn_sI, hK_sR, hI_sR, hN_sR, hA_sR, hQ_sR, hL_sR, hn_sR, hK_sA, hI_sA, hR_sA, hN_sA, hQ_sA, hL_sA, hn_sA, hK_sQ, hI_sQ, hR_sQ, hN_sQ, hA_sQ, hL_sQ, hn_sQ, hK_sL, hI_sL, hR_sL, hN_sL, hA_sL, hQ_sL, hn_sL, hK_cpA, hI_cpA, hR_cpA, hN_cpA, hQ_cpA, hL_cpA, hn_cpA, hK_bump, hI_bump, hR_bump, hN_bump, hA_bump, hQ_bump, hL_bump, hn_bump, hI_sI, hR_sR, hA_sA, hQ_sQ, hL_sL, hA_cpA, Y_k0 c3.y, Y_k54 c3.y, Y_r102 c3.y, j3, hi, cn, Ev_some]
        refine Or.inr ⟨i, by omega, ⟨k, a1, Or.inr ⟨b1, rfl, by omega, hs9, Or.inr ex⟩⟩, h', rfl, (f1'.tr f2).tr (f.c (in151 (fun i hi => in1T hi))), ?_, ?_, c3⟩
        · exact (f.2.2.2.2.2.1.trans d1).trans f1.2.2.2.2.2.1
        · exact (f.2.2.2.2.2.2.1.trans d2).trans f1.2.2.2.2.2.2.1
      | some s' =>
        have cy : Ev (ev L xs mdX6_carriesOut 0 [.ref 0, .int (nI i), .null, .null] [] h') (fun z => ∃ h3, z = .inl (some (.int (nI 1)), h3) ∧ Fr (inTk 1) h' h3 ∧ RlS h3 1 s') := car_y (r := (exK tx len s i).1) (H := (exK tx len s i).2.1) (P := (exK tx len s i).2.2.1) (G := (exK tx len s i).2.2.2.1) (n := (exK tx len s i).2.2.2.2) c3 ok2.1 ok2.2 (by omega) eo a56 a57 a58 ex
        simp (disch := first | with_reducible assumption | exact cat_int | exact cat_ref | exact cat_null | exact cat_ra | exact Nat.le_of_ble_eq_true rfl | (simp (disch := omega) only [hK_sI, hR_sI, hN_sI, hA_sI, hQ_sI, hL_sI, hn_sI, hK_sR, hI_sR, hN_sR, hA_sR, hQ_sR, hL_sR, hn_sR, hK_sA, hI_sA, hR_sA, hN_sA, hQ_sA, hL_sA, hn_sA, hK_sQ, hI_sQ, hR_sQ, hN_sQ, hA_sQ, hL_sQ, hn_sQ, hK_sL, hI_sL, hR_sL, hN_sL, hA_sL, hQ_sL, hn_sL, hK_cpA, hI_cpA, hR_cpA, hN_cpA, hQ_cpA, hL_cpA, hn_cpA, hK_bump, hI_bump, hR_bump, hN_bump, hA_bump, hQ_bump, hL_bump, hn_bump, hI_sI, hR_sR, hA_sA, hQ_sQ, hL_sL, hA_cpA, isS, cat_int, cat_ref, cat_null, cat_ra, wds_nil, wds_int, wds_ref, wds_long, wds_ra, nz5, nz7, nz2, idxN, inAN, if_true, if_false, b00, b11, b01, eq_self, true_or, or_true, false_or, or_false, true_and, and_true, false_and, and_false, not_true, not_false_eq_true, Y_k0 c3.y, Y_k54 c3.y, Y_r102 c3.y, j3, hi]; done) | omega) only [iX6_carryOut_28, iX6_carryOut_29, iX6_carryOut_32, iX6_carryOut_35, iX6_carryOut_38, iX6_carryOut_39, iX6_carryOut_40, ↓reduceIte, ofN, reduceCtorEq, Bool.false_eq_true, Nat.reduceAdd, Nat.reduceMul, Nat.reduceEqDiff, Nat.reduceLeDiff, Nat.reduceLT, le_nlt, ite_not, Nat.lt_irrefl, Decidable.not_not, kn1, kn0, knite, isS, getS, cat_int, cat_ref, cat_null, cat_ra, wds_nil, wds_int, wds_ref, wds_long, wds_ra, b0, b01, b00, b11, b10, if_true, if_false, ite_self, not_true, not_false_eq_true, true_or, or_true, false_or, or_false, true_and, and_true, false_and, and_false, eq_self, idxN, inAN, nI_add, nI_mul, nI_sub, nz5, nz7, nz2, nI_ltN, Nat.add_zero, Nat.zero_add, hK_sI, hR_sI, hN_sI, hA_sI, hQ_sI, hL_sI, hn_sI, hK_sR, hI_sR, hN_sR, hA_sR, hQ_sR, hL_sR, hn_sR, hK_sA, hI_sA, hR_sA, hN_sA, hQ_sA, hL_sA, hn_sA, hK_sQ, hI_sQ, hR_sQ, hN_sQ, hA_sQ, hL_sQ, hn_sQ, hK_sL, hI_sL, hR_sL, hN_sL, hA_sL, hQ_sL, hn_sL, hK_cpA, hI_cpA, hR_cpA, hN_cpA, hQ_cpA, hL_cpA, hn_cpA, hK_bump, hI_bump, hR_bump, hN_bump, hA_bump, hQ_bump, hL_bump, hn_bump, hI_sI, hR_sR, hA_sA, hQ_sQ, hL_sL, hA_cpA, Y_k0 c3.y, Y_k54 c3.y, Y_r102 c3.y, j3, hi]
        refine Ev_call cy ?_
        rintro _ ⟨h3, rfl, f3, R3⟩
        simp (disch := first | with_reducible assumption | exact cat_int | exact cat_ref | exact cat_null | exact cat_ra | exact Nat.le_of_ble_eq_true rfl | (simp (disch := omega) only [hK_sI, hR_sI, hN_sI, hA_sI, hQ_sI, hL_sI, hn_sI, hK_sR, hI_sR, hN_sR, hA_sR, hQ_sR, hL_sR, hn_sR, hK_sA, hI_sA, hR_sA, hN_sA, hQ_sA, hL_sA, hn_sA, hK_sQ, hI_sQ, hR_sQ, hN_sQ, hA_sQ, hL_sQ, hn_sQ, hK_sL, hI_sL, hR_sL, hN_sL, hA_sL, hQ_sL, hn_sL, hK_cpA, hI_cpA, hR_cpA, hN_cpA, hQ_cpA, hL_cpA, hn_cpA, hK_bump, hI_bump, hR_bump, hN_bump, hA_bump, hQ_bump, hL_bump, hn_bump, hI_sI, hR_sR, hA_sA, hQ_sQ, hL_sL, hA_cpA, isS, cat_int, cat_ref, cat_null, cat_ra, wds_nil, wds_int, wds_ref, wds_long, wds_ra, nz5, nz7, nz2, idxN, inAN, if_true, if_false, b00, b11, b01, eq_self, true_or, or_true, false_or, or_false, true_and, and_true, false_and, and_false, not_true, not_false_eq_true]; done) | omega) only [iX6_carryOut_43, iX6_carryOut_46, iX6_carryOut_49, ↓reduceIte, ofN, reduceCtorEq, Bool.false_eq_true, Nat.reduceAdd, Nat.reduceMul, Nat.reduceEqDiff, Nat.reduceLeDiff, Nat.reduceLT, le_nlt, ite_not, Nat.lt_irrefl, Decidable.not_not, kn1, kn0, knite, isS, getS, cat_int, cat_ref, cat_null, cat_ra, wds_nil, wds_int, wds_ref, wds_long, wds_ra, b0, b01, b00, b11, b10, if_true, if_false, ite_self, not_true, not_false_eq_true, true_or, or_true, false_or, or_false, true_and, and_true, false_and, and_false, eq_self, idxN, inAN, nI_add, nI_mul, nI_sub, nz5, nz7, nz2, nI_ltN, Nat.add_zero, Nat.zero_add, hK_sI, hR_sI, hN_sI, hA_sI, hQ_sI, hL_sI, hn_sI, hK_sR, hI_sR, hN_sR, hA_sR, hQ_sR, hL_sR, hn_sR, hK_sA, hI_sA, hR_sA, hN_sA, hQ_sA, hL_sA, hn_sA, hK_sQ, hI_sQ, hR_sQ, hN_sQ, hA_sQ, hL_sQ, hn_sQ, hK_sL, hI_sL, hR_sL, hN_sL, hA_sL, hQ_sL, hn_sL, hK_cpA, hI_cpA, hR_cpA, hN_cpA, hQ_cpA, hL_cpA, hn_cpA, hK_bump, hI_bump, hR_bump, hN_bump, hA_bump, hQ_bump, hL_bump, hn_bump, hI_sI, hR_sR, hA_sA, hQ_sQ, hL_sL, hA_cpA]
        have e3 : exK tx len s (i + 1) = s' := by
          show (exo tx len (posK tx len i) (exK tx len s i)).getD _ = s'
          rw [ex]
          rfl
        refine kk _ _ ⟨rfl, f.tr f3, by rw [e3]; exact R3, by rw [e3]; exact exo_ok c3.P8 eo ex ok2, fun j hj => ?_⟩
        by_cases cj : j = i
        · rw [cj, ex]; rfl
        · exact hs9 j (by omega)
    · rintro Ls h' ⟨rfl, f, R, ok2, hs9⟩
      have c3 := c2.set f R (fun i hi => in1T hi)
      have n54 : ¬ inTk 1 54 := by
        rintro (z | z)
        · have := z.1; have := z.2; omega
        · omega
      have j3 : hI h' 21 54 = nI k := by rw [f.fi n54]; exact j1
      rw [iX6_carryOut_27]
      simp (disch := first | with_reducible assumption | exact cat_int | exact cat_ref | exact cat_null | exact cat_ra | exact Nat.le_of_ble_eq_true rfl | (simp (disch := omega) only [hK_sI, hR_sI, hN_sI, hA_sI, hQ_sI, hL_sI, hn_sI, hK_sR, hI_sR, hN_sR, hA_sR, hQ_sR, hL_sR, hn_sR, hK_sA, hI_sA, hR_sA, hN_sA, hQ_sA, hL_sA, hn_sA, hK_sQ, hI_sQ, hR_sQ, hN_sQ, hA_sQ, hL_sQ, hn_sQ, hK_sL, hI_sL, hR_sL, hN_sL, hA_sL, hQ_sL, hn_sL, hK_cpA, hI_cpA, hR_cpA, hN_cpA, hQ_cpA, hL_cpA, hn_cpA, hK_bump, hI_bump, hR_bump, hN_bump, hA_bump, hQ_bump, hL_bump, hn_bump, hI_sI, hR_sR, hA_sA, hQ_sQ, hL_sL, hA_cpA, isS, cat_int, cat_ref, cat_null, cat_ra, wds_nil, wds_int, wds_ref, wds_long, wds_ra, nz5, nz7, nz2, idxN, inAN, if_true, if_false, b00, b11, b01, eq_self, true_or, or_true, false_or, or_false, true_and, and_true, false_and, and_false, not_true, not_false_eq_true, Y_k0 c3.y, Y_k54 c3.y, Y_r102 c3.y, j3, Ev_some]; done) | omega) only [iX6_carryOut_28, iX6_carryOut_29, iX6_carryOut_32, iX6_carryOut_35, iX6_carryOut_38, iX6_carryOut_39, iX6_carryOut_40, iX6_carryOut_43, iX6_carryOut_46, iX6_carryOut_49, iX6_carryOut_52, iX6_carryOut_53, ↓reduceIte, ofN, reduceCtorEq, Bool.false_eq_true, Nat.reduceAdd, Nat.reduceMul, Nat.reduceEqDiff, Nat.reduceLeDiff, Nat.reduceLT, le_nlt, ite_not, Nat.lt_irrefl, Decidable.not_not, kn1, kn0, knite, isS, getS, cat_int, cat_ref, cat_null, cat_ra, wds_nil, wds_int, wds_ref, wds_long, wds_ra, b0, b01, b00, b11, b10, if_true, if_false, ite_self, not_true, not_false_eq_true, true_or, or_true, false_or, or_false, true_and, and_true, false_and, and_false, eq_self, idxN, inAN, nI_add, nI_mul, nI_sub, nz5, nz7, nz2, nI_ltN, Nat.add_zero, Nat.zero_add, hK_sI, hR_sI, hN_sI, hA_sI, hQ_sI, hL_sI, hn_sI, hK_sR, hI_sR, hN_sR, hA_sR, hQ_sR, hL_sR, hn_sR, hK_sA, hI_sA, hR_sA, hN_sA, hQ_sA, hL_sA, hn_sA, hK_sQ, hI_sQ, hR_sQ, hN_sQ, hA_sQ, hL_sQ, hn_sQ, hK_sL, hI_sL, hR_sL, hN_sL, hA_sL, hQ_sL, hn_sL, hK_cpA, hI_cpA, hR_cpA, hN_cpA, hQ_cpA, hL_cpA, hn_cpA, hK_bump, hI_bump, hR_bump, hN_bump, hA_bump, hQ_bump, hL_bump, hn_bump, hI_sI, hR_sR, hA_sA, hQ_sQ, hL_sL, hA_cpA, Y_k0 c3.y, Y_k54 c3.y, Y_r102 c3.y, j3, Ev_some]
      refine Or.inr ⟨k, k30, ⟨k, a1, Or.inr ⟨b1, rfl, by omega, hs9, Or.inl rfl⟩⟩, h', rfl, (f1'.tr f2).tr (f.c (in151 (fun i hi => in1T hi))), ?_, ?_, c3⟩
      · exact (f.2.2.2.2.2.1.trans d1).trans f1.2.2.2.2.2.1
      · exact (f.2.2.2.2.2.2.1.trans d2).trans f1.2.2.2.2.2.2.1
end
