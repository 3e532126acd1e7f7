/-! takeNext, takeDays -/
def goL (r : Rw) (H P G n : Nat) : LK := lookL r (wl r (nI (n / 2))) (nee r H (nI (n / 2)) (nI (n % 2))) P G n
def goR (r : Rw) (H P G n : Nat) : Rw := fun k =>
  if k = 0 then nI ((n + 1) / 2) else if k = 1 then nI ((n + 1) % 2)
  else if k = 5 then r 5 + (if sch r (nI (n / 2)) H = true then nI 1 else nI 0)
  else if k = 6 then r 6 + nI (popc (msk (nee r H (nI (n / 2)) (nI (n % 2))) P))
  else if k = 7 then r 7 + nI (popc (goL r H P G n).2.2.2)
  else it (goS (goL r H P G n) n) r P k
def inTk (a i : Nat) : Prop := inRo i ∨ (a ≤ i ∧ i < a + 23)
theorem noteR_lo {r : Rw} {p : Nat} {w y se : Int32} {k : Nat} (hk : k < 21) : noteR r p w y se k = r k := by
  unfold noteR
  rw [if_neg (by omega), if_neg (by omega), if_neg (by omega), if_neg (by omega)]
theorem noteR_hi {r : Rw} {p : Nat} {w y se : Int32} {k : Nat} (hp : p < 8) (hk : 93 ≤ k) : noteR r p w y se k = r k := by
  unfold noteR
  rw [if_neg (by omega), if_neg (by omega), if_neg (by omega), if_neg (by omega)]
theorem payR_lo {r : Rw} {g p k : Nat} (hk : k < 93) : payR r g p k = r k := by
  unfold payR
  rw [if_neg (by omega)]
theorem goS_lo {s : LK} {n p : Nat} {r : Rw} {k : Nat} (hk : k < 21) : goS s n p r k = r k := by
  unfold goS
  split
  · exact noteR_lo hk
  · rw [payR_lo (by omega)]; exact noteR_lo hk
theorem it_goS_lo {s : LK} {n : Nat} {r : Rw} {k : Nat} (hk : k < 21) : ∀ {i : Nat}, it (goS s n) r i k = r k
  | 0 => rfl
  | i + 1 => (goS_lo hk).trans (it_goS_lo hk)
theorem step_pay {r : Rw} {g p G : Nat} (hs : stepOK r G) : stepOK (payR r g p) G := by
  intro j hj
  obtain ⟨k, hk, e⟩ := hs j hj
  by_cases c : j = g
  · subst c
    have : payR r j p (96 + 9 * j) = gSt (fun f => r (93 + 9 * j + f)) (nI p) (r (21 + 9 * p)) 3 := by
      unfold payR
      rw [if_pos ⟨by omega, by omega⟩, show 96 + 9 * j - (93 + 9 * j) = 3 by omega]
    rw [this]
    exact gSt3 ⟨k, hk, by rw [← e]; congr 1; omega⟩
  · refine ⟨k, hk, ?_⟩
    unfold payR
    rw [if_neg (by omega)]
    exact e
theorem step_note {r : Rw} {p G : Nat} {w y se : Int32} (hp : p < 8) (hs : stepOK r G) : stepOK (noteR r p w y se) G := by
  intro j hj
  rw [noteR_hi hp (by omega)]
  exact hs j hj
theorem step_go {s : LK} {n p G : Nat} {r : Rw} (hp : p < 8) (hs : stepOK r G) : stepOK (goS s n p r) G := by
  unfold goS
  split
  · exact step_note hp hs
  · exact step_pay (step_note hp hs)
theorem step_it {s : LK} {n G : Nat} {r : Rw} (hs : stepOK r G) : ∀ {i : Nat}, i ≤ 8 → stepOK (it (goS s n) r i) G
  | 0, _ => hs
  | i + 1, h => step_go (by omega) (step_it hs (by omega))
theorem sch_congr {r r' : Rw} {d : Int32} : ∀ {i : Nat}, i ≤ 6 → (∀ k, k < 21 → r' k = r k) → sch r' d i = sch r d i
  | 0, _, _ => rfl
  | i + 1, h, e => by
    unfold sch
    rw [sch_congr (by omega) e, e _ (by omega), e _ (by omega)]
theorem inR_n {g G : Nat} (hg : g < G) (hG : G < 1000) : inR (nI g) G = true := by
  unfold inR
  rw [decide_eq_true_eq, nI_sub (by omega), nI_leN (by omega) (by omega), nI_leN (by omega) (by omega)]
  omega
theorem inR_m {G : Nat} : inR (-1) G = false := by
  unfold inR
  rw [decide_eq_false_iff_not]
  rintro ⟨z, -⟩
  exact absurd z (by decide)
section
variable {h : AH} {s : LK} {W nd : Nat → Bool} {P G p : Nat}
theorem Ro.who (o : Ro h s W nd P G) (hp : p < 8) : hA h 49 p = s.1 p := o.1 p hp
theorem Ro.why (o : Ro h s W nd P G) (hp : p < 8) : hA h 50 p = s.2.1 p := o.2.1 p hp
theorem Ro.ne (o : Ro h s W nd P G) : hI h 66 48 = nI (msk nd P) := o.2.2.1
theorem Ro.op (o : Ro h s W nd P G) : hI h 67 48 = nI s.2.2.2 := o.2.2.2.1
theorem Ro.we (o : Ro h s W nd P G) : hI h 68 48 = nI (msk W G) := o.2.2.2.2.1
theorem Ro.fe (o : Ro h s W nd P G) : hI h 69 48 = nI (msk s.2.2.1 G) := o.2.2.2.2.2.1
end
section
variable {L : Nat} {xs : Nat → Int32} {h h2 : AH} {a H P G n : Nat} {r : Rw}
theorem Rl_hd {n' : Nat} {r' : Rw} (R : Rl h a r H P G n) (f : Fr (fun i => i = a) h h2) (hn9 : n' < 20000) (e2 : hI h2 82 a = nI H) (e4 : hI h2 84 a = nI P) (e6 : hI h2 86 a = nI G) (e7 : hI h2 87 a = nI n') (e8 : hI h2 88 a = r' 5) (e9 : hI h2 89 a = r' 6) (hr : ∀ k, 9 ≤ k → r' k = r k) : Rl h2 a r' H P G n' := by
  obtain ⟨a1, a2, a3, a4, a5, a6, a7, a8, a9, a10, a11, a12, a13⟩ := R
  refine ⟨a1, a2, a3, hn9, e2, e4, e6, e7, e8, e9, fun i hi => ?_, fun p hp k hk => ?_, fun g hg k hk => ?_⟩
  · rw [f.ar (by omega), f.ar (by omega), hr _ (by omega), hr _ (by omega)]; exact a11 i hi
  · rw [f.fi (by omega), hr _ (by omega)]; exact a12 p hp k hk
  · rw [f.fi (by omega), hr _ (by omega)]; exact a13 g hg k hk
theorem s_takeNext (hy : LayF h) (hl : LaySt h a) (R : Rl h a r H P G n) (hd : a + 23 ≤ 48 ∨ 51 ≤ a) (hO : ownOK r P G) (hs : stepOK r G) (hn9 : n + 1 < 20000) : Ev (ev L xs mdX5_takeNext 0 [.ref a, .ref 48, .null, .null, .null] [] h) (fun z => ∃ h', z = .inl (some (.int (nI (goL r H P G n).2.2.2)), h') ∧ Fr (inTk a) h h' ∧ Rl h' a (goR r H P G n) H P G (n + 1)) := by
  have hG10 := R.G10
  have hP8 := R.P8
  have hH6 := R.H6
  have hrem := nI_rem2 R.nn
  have e2 : nI n / nI 2 = nI (n / 2) := nI_div (by omega) (by omega)
  rw [e2, nI_mul] at hrem
  have hw : whoOK (goL r H P G n) G := who_look hP8
  simp (disch := first | with_reducible assumption | exact cat_int | exact cat_ref | exact cat_null | exact cat_ra | exact Nat.le_of_ble_eq_true rfl | (simp (disch := omega) only [hK_sI, hR_sI, hN_sI, hA_sI, hQ_sI, hL_sI, hn_sI, hK_sR, hI_sR, hN_sR, hA_sR, hQ_sR, hL_sR, hn_sR, hK_sA, hI_sA, hR_sA, hN_sA, hQ_sA, hL_sA, hn_sA, hK_sQ, hI_sQ, hR_sQ, hN_sQ, hA_sQ, hL_sQ, hn_sQ, hK_sL, hI_sL, hR_sL, hN_sL, hA_sL, hQ_sL, hn_sL, hK_cpA, hI_cpA, hR_cpA, hN_cpA, hQ_cpA, hL_cpA, hn_cpA, hK_bump, hI_bump, hR_bump, hN_bump, hA_bump, hQ_bump, hL_bump, hn_bump, hI_sI, hR_sR, hA_sA, hQ_sQ, hL_sL, hA_cpA, isS, cat_int, cat_ref, cat_null, cat_ra, wds_nil, wds_int, wds_ref, wds_long, wds_ra, nz5, nz7, nz2, idxN, inAN, if_true, if_false, b00, b11, b01, eq_self, true_or, or_true, false_or, or_false, true_and, and_true, false_and, and_false, not_true, not_false_eq_true, Y_k48 hy, LS_k hl, LS_r0 hl, LS_r1 hl, LS_r3 hl, LS_r5 hl, LS_k1 hl, LS_n1 hl, LS_k2 hl, LS_n2 hl, LS_k3 hl, LS_n3 hl, LS_k4 hl, LS_n4 hl, s_nextDay hl R, R.hn, e2, hrem]; done) | omega) only [iX5_takeNext_0, iX5_takeNext_1, iX5_takeNext_4, iX5_takeNext_5, iX5_takeNext_6, iX5_takeNext_7, iX5_takeNext_8, iX5_takeNext_9, iX5_takeNext_12, iX5_takeNext_13, iX5_takeNext_14, ↓reduceIte, ofN, reduceCtorEq, Bool.false_eq_true, Nat.reduceAdd, Nat.reduceMul, Nat.reduceEqDiff, Nat.reduceLeDiff, Nat.reduceLT, le_nlt, ite_not, Nat.lt_irrefl, Decidable.not_not, kn1, kn0, knite, isS, getS, cat_int, cat_ref, cat_null, cat_ra, wds_nil, wds_int, wds_ref, wds_long, wds_ra, b0, b01, b00, b11, b10, if_true, if_false, ite_self, not_true, not_false_eq_true, true_or, or_true, false_or, or_false, true_and, and_true, false_and, and_false, eq_self, idxN, inAN, nI_add, nI_mul, nI_sub, nz5, nz7, nz2, nI_ltN, Nat.add_zero, Nat.zero_add, hK_sI, hR_sI, hN_sI, hA_sI, hQ_sI, hL_sI, hn_sI, hK_sR, hI_sR, hN_sR, hA_sR, hQ_sR, hL_sR, hn_sR, hK_sA, hI_sA, hR_sA, hN_sA, hQ_sA, hL_sA, hn_sA, hK_sQ, hI_sQ, hR_sQ, hN_sQ, hA_sQ, hL_sQ, hn_sQ, hK_sL, hI_sL, hR_sL, hN_sL, hA_sL, hQ_sL, hn_sL, hK_cpA, hI_cpA, hR_cpA, hN_cpA, hQ_cpA, hL_cpA, hn_cpA, hK_bump, hI_bump, hR_bump, hN_bump, hA_bump, hQ_bump, hL_bump, hn_bump, hI_sI, hR_sR, hA_sA, hQ_sQ, hL_sL, hA_cpA, Y_k48 hy, LS_k hl, LS_r0 hl, LS_r1 hl, LS_r3 hl, LS_r5 hl, LS_k1 hl, LS_n1 hl, LS_k2 hl, LS_n2 hl, LS_k3 hl, LS_n3 hl, LS_k4 hl, LS_n4 hl, s_nextDay hl R, R.hn, e2, hrem]
  refine Ev_call (s_draw hy hl R hd hO) ?_
  rintro _ ⟨h1, rfl, f1, o1⟩
  change Ro h1 (goL r H P G n) _ _ P G at o1
  have hl1 := f1.st hl
  have R1 := R.fr f1 (fun i h1 h2 h3 => by have := h3.1; have := h3.2; omega)
  have f1' : Fr (inTk a) h h1 := f1.mono (fun i hi => Or.inl hi)
  simp (disch := first | with_reducible assumption | exact cat_int | exact cat_ref | exact cat_null | exact cat_ra | exact Nat.le_of_ble_eq_true rfl | (simp (disch := omega) only [hK_sI, hR_sI, hN_sI, hA_sI, hQ_sI, hL_sI, hn_sI, hK_sR, hI_sR, hN_sR, hA_sR, hQ_sR, hL_sR, hn_sR, hK_sA, hI_sA, hR_sA, hN_sA, hQ_sA, hL_sA, hn_sA, hK_sQ, hI_sQ, hR_sQ, hN_sQ, hA_sQ, hL_sQ, hn_sQ, hK_sL, hI_sL, hR_sL, hN_sL, hA_sL, hQ_sL, hn_sL, hK_cpA, hI_cpA, hR_cpA, hN_cpA, hQ_cpA, hL_cpA, hn_cpA, hK_bump, hI_bump, hR_bump, hN_bump, hA_bump, hQ_bump, hL_bump, hn_bump, hI_sI, hR_sR, hA_sA, hQ_sQ, hL_sL, hA_cpA, isS, cat_int, cat_ref, cat_null, cat_ra, wds_nil, wds_int, wds_ref, wds_long, wds_ra, nz5, nz7, nz2, idxN, inAN, if_true, if_false, b00, b11, b01, eq_self, true_or, or_true, false_or, or_false, true_and, and_true, false_and, and_false, not_true, not_false_eq_true]; done) | omega) only [iX5_takeNext_17, iX5_takeNext_18, ↓reduceIte, ofN, reduceCtorEq, Bool.false_eq_true, Nat.reduceAdd, Nat.reduceMul, Nat.reduceEqDiff, Nat.reduceLeDiff, Nat.reduceLT, le_nlt, ite_not, Nat.lt_irrefl, Decidable.not_not, kn1, kn0, knite, isS, getS, cat_int, cat_ref, cat_null, cat_ra, wds_nil, wds_int, wds_ref, wds_long, wds_ra, b0, b01, b00, b11, b10, if_true, if_false, ite_self, not_true, not_false_eq_true, true_or, or_true, false_or, or_false, true_and, and_true, false_and, and_false, eq_self, idxN, inAN, nI_add, nI_mul, nI_sub, nz5, nz7, nz2, nI_ltN, Nat.add_zero, Nat.zero_add, hK_sI, hR_sI, hN_sI, hA_sI, hQ_sI, hL_sI, hn_sI, hK_sR, hI_sR, hN_sR, hA_sR, hQ_sR, hL_sR, hn_sR, hK_sA, hI_sA, hR_sA, hN_sA, hQ_sA, hL_sA, hn_sA, hK_sQ, hI_sQ, hR_sQ, hN_sQ, hA_sQ, hL_sQ, hn_sQ, hK_sL, hI_sL, hR_sL, hN_sL, hA_sL, hQ_sL, hn_sL, hK_cpA, hI_cpA, hR_cpA, hN_cpA, hQ_cpA, hL_cpA, hn_cpA, hK_bump, hI_bump, hR_bump, hN_bump, hA_bump, hQ_bump, hL_bump, hn_bump, hI_sI, hR_sR, hA_sA, hQ_sQ, hL_sL, hA_cpA]
  refine Ev_loop (n := P) (fun i Ls h' => (∃ v4, Ls = [.ref a, .ref 48, .int (nI (n / 2)), .int (nI i), v4]) ∧ Fr (inTk a) h h' ∧ Ro h' (goL r H P G n) (wl r (nI (n / 2))) (nee r H (nI (n / 2)) (nI (n % 2))) P G ∧ Rl h' a (it (goS (goL r H P G n) n) r i) H P G n) ?_ ?_ (Nat.zero_le _) ⟨⟨_, rfl⟩, f1', o1, R1⟩
  · rintro i Ls h' hi ⟨⟨v4, rfl⟩, f, o, R'⟩ k
    have hi8 : i < 8 := by omega
    have hy' := f.y hy
    have hl' := f.st hl
    rw [iX5_takeNext_19]
    generalize hg9 : goL r H P G n = s at o hw R' k ⊢
    simp (disch := first | with_reducible assumption | exact cat_int | exact cat_ref | exact cat_null | exact cat_ra | exact Nat.le_of_ble_eq_true rfl | (simp (disch := omega) only [hK_sI, hR_sI, hN_sI, hA_sI, hQ_sI, hL_sI, hn_sI, hK_sR, hI_sR, hN_sR, hA_sR, hQ_sR, hL_sR, hn_sR, hK_sA, hI_sA, hR_sA, hN_sA, hQ_sA, hL_sA, hn_sA, hK_sQ, hI_sQ, hR_sQ, hN_sQ, hA_sQ, hL_sQ, hn_sQ, hK_sL, hI_sL, hR_sL, hN_sL, hA_sL, hQ_sL, hn_sL, hK_cpA, hI_cpA, hR_cpA, hN_cpA, hQ_cpA, hL_cpA, hn_cpA, hK_bump, hI_bump, hR_bump, hN_bump, hA_bump, hQ_bump, hL_bump, hn_bump, hI_sI, hR_sR, hA_sA, hQ_sQ, hL_sL, hA_cpA, isS, cat_int, cat_ref, cat_null, cat_ra, wds_nil, wds_int, wds_ref, wds_long, wds_ra, nz5, nz7, nz2, idxN, inAN, if_true, if_false, b00, b11, b01, eq_self, true_or, or_true, false_or, or_false, true_and, and_true, false_and, and_false, not_true, not_false_eq_true, LS_k hl', LS_r0 hl', LS_r1 hl', LS_r3 hl', LS_r5 hl', LS_k1 hl', LS_n1 hl', LS_k2 hl', LS_n2 hl', LS_k3 hl', LS_n3 hl', LS_k4 hl', LS_n4 hl', Y_k48 hy', Y_r64 hy', Y_r65 hy', Y_k49 hy', Y_n49 hy', Y_k50 hy', Y_n50 hy', R'.hP, R'.hn, hi, LS_po hl' hi8, LS_pq hl' hi8, o.who hi8, o.why hi8]; done) | omega) only [iX5_takeNext_20, iX5_takeNext_21, iX5_takeNext_24, iX5_takeNext_27, iX5_takeNext_28, iX5_takeNext_31, iX5_takeNext_32, iX5_takeNext_33, iX5_takeNext_35, iX5_takeNext_36, iX5_takeNext_39, iX5_takeNext_40, iX5_takeNext_41, iX5_takeNext_43, iX5_takeNext_44, iX5_takeNext_47, iX5_takeNext_48, iX5_takeNext_49, iX5_takeNext_50, iX5_takeNext_53, ↓reduceIte, ofN, reduceCtorEq, Bool.false_eq_true, Nat.reduceAdd, Nat.reduceMul, Nat.reduceEqDiff, Nat.reduceLeDiff, Nat.reduceLT, le_nlt, ite_not, Nat.lt_irrefl, Decidable.not_not, kn1, kn0, knite, isS, getS, cat_int, cat_ref, cat_null, cat_ra, wds_nil, wds_int, wds_ref, wds_long, wds_ra, b0, b01, b00, b11, b10, if_true, if_false, ite_self, not_true, not_false_eq_true, true_or, or_true, false_or, or_false, true_and, and_true, false_and, and_false, eq_self, idxN, inAN, nI_add, nI_mul, nI_sub, nz5, nz7, nz2, nI_ltN, Nat.add_zero, Nat.zero_add, hK_sI, hR_sI, hN_sI, hA_sI, hQ_sI, hL_sI, hn_sI, hK_sR, hI_sR, hN_sR, hA_sR, hQ_sR, hL_sR, hn_sR, hK_sA, hI_sA, hR_sA, hN_sA, hQ_sA, hL_sA, hn_sA, hK_sQ, hI_sQ, hR_sQ, hN_sQ, hA_sQ, hL_sQ, hn_sQ, hK_sL, hI_sL, hR_sL, hN_sL, hA_sL, hQ_sL, hn_sL, hK_cpA, hI_cpA, hR_cpA, hN_cpA, hQ_cpA, hL_cpA, hn_cpA, hK_bump, hI_bump, hR_bump, hN_bump, hA_bump, hQ_bump, hL_bump, hn_bump, hI_sI, hR_sR, hA_sA, hQ_sQ, hL_sL, hA_cpA, LS_k hl', LS_r0 hl', LS_r1 hl', LS_r3 hl', LS_r5 hl', LS_k1 hl', LS_n1 hl', LS_k2 hl', LS_n2 hl', LS_k3 hl', LS_n3 hl', LS_k4 hl', LS_n4 hl', Y_k48 hy', Y_r64 hy', Y_r65 hy', Y_k49 hy', Y_n49 hy', Y_k50 hy', Y_n50 hy', R'.hP, R'.hn, hi, LS_po hl' hi8, LS_pq hl' hi8, o.who hi8, o.why hi8]
    refine Ev_call (s_pnote (LS_po hl' hi8)) ?_
    rintro _ ⟨h2, rfl, f2, e2'⟩
    have f2' : Fr (inTk a) h h2 := f.tr (f2.mono (fun j hj => Or.inr (by omega)))
    have R2 := Rl_note R' hi f2 e2'
    have hl2 := f2'.st hl
    have o2 := Ro_fr o f2 (fun j hj => by have := hj.1; have := hj.2; omega)
    rcases hw.1 i with c | ⟨g, hgG, c⟩
    · have sg := s_hasGuard (L := L) (xs := xs) (x := s.1 i) hl2 R2
      rw [c, inR_m] at sg
      simp (disch := first | with_reducible assumption | exact cat_int | exact cat_ref | exact cat_null | exact cat_ra | exact Nat.le_of_ble_eq_true rfl | (simp (disch := omega) only [hK_sI, hR_sI, hN_sI, hA_sI, hQ_sI, hL_sI, hn_sI, hK_sR, hI_sR, hN_sR, hA_sR, hQ_sR, hL_sR, hn_sR, hK_sA, hI_sA, hR_sA, hN_sA, hQ_sA, hL_sA, hn_sA, hK_sQ, hI_sQ, hR_sQ, hN_sQ, hA_sQ, hL_sQ, hn_sQ, hK_sL, hI_sL, hR_sL, hN_sL, hA_sL, hQ_sL, hn_sL, hK_cpA, hI_cpA, hR_cpA, hN_cpA, hQ_cpA, hL_cpA, hn_cpA, hK_bump, hI_bump, hR_bump, hN_bump, hA_bump, hQ_bump, hL_bump, hn_bump, hI_sI, hR_sR, hA_sA, hQ_sQ, hL_sL, hA_cpA, isS, cat_int, cat_ref, cat_null, cat_ra, wds_nil, wds_int, wds_ref, wds_long, wds_ra, nz5, nz7, nz2, idxN, inAN, if_true, if_false, b00, b11, b01, eq_self, true_or, or_true, false_or, or_false, true_and, and_true, false_and, and_false, not_true, not_false_eq_true, LS_k hl2, LS_r0 hl2, LS_r1 hl2, LS_r3 hl2, LS_r5 hl2, LS_k1 hl2, LS_n1 hl2, LS_k2 hl2, LS_n2 hl2, LS_k3 hl2, LS_n3 hl2, LS_k4 hl2, LS_n4 hl2, c, sg]; done) | omega) only [iX5_takeNext_56, iX5_takeNext_57, iX5_takeNext_59, iX5_takeNext_62, iX5_takeNext_65, iX5_takeNext_66, iX5_takeNext_69, iX5_takeNext_71, iX5_takeNext_72, iX5_takeNext_73, iX5_takeNext_74, iX5_takeNext_77, iX5_takeNext_78, iX5_takeNext_79, iX5_takeNext_82, iX5_takeNext_85, iX5_takeNext_88, ↓reduceIte, ofN, reduceCtorEq, Bool.false_eq_true, Nat.reduceAdd, Nat.reduceMul, Nat.reduceEqDiff, Nat.reduceLeDiff, Nat.reduceLT, le_nlt, ite_not, Nat.lt_irrefl, Decidable.not_not, kn1, kn0, knite, isS, getS, cat_int, cat_ref, cat_null, cat_ra, wds_nil, wds_int, wds_ref, wds_long, wds_ra, b0, b01, b00, b11, b10, if_true, if_false, ite_self, not_true, not_false_eq_true, true_or, or_true, false_or, or_false, true_and, and_true, false_and, and_false, eq_self, idxN, inAN, nI_add, nI_mul, nI_sub, nz5, nz7, nz2, nI_ltN, Nat.add_zero, Nat.zero_add, hK_sI, hR_sI, hN_sI, hA_sI, hQ_sI, hL_sI, hn_sI, hK_sR, hI_sR, hN_sR, hA_sR, hQ_sR, hL_sR, hn_sR, hK_sA, hI_sA, hR_sA, hN_sA, hQ_sA, hL_sA, hn_sA, hK_sQ, hI_sQ, hR_sQ, hN_sQ, hA_sQ, hL_sQ, hn_sQ, hK_sL, hI_sL, hR_sL, hN_sL, hA_sL, hQ_sL, hn_sL, hK_cpA, hI_cpA, hR_cpA, hN_cpA, hQ_cpA, hL_cpA, hn_cpA, hK_bump, hI_bump, hR_bump, hN_bump, hA_bump, hQ_bump, hL_bump, hn_bump, hI_sI, hR_sR, hA_sA, hQ_sQ, hL_sL, hA_cpA, LS_k hl2, LS_r0 hl2, LS_r1 hl2, LS_r3 hl2, LS_r5 hl2, LS_k1 hl2, LS_n1 hl2, LS_k2 hl2, LS_n2 hl2, LS_k3 hl2, LS_n3 hl2, LS_k4 hl2, LS_n4 hl2, c, sg]
      refine k _ _ ⟨⟨_, rfl⟩, f2', o2, ?_⟩
      have : it (goS s n) r (i + 1) = noteR (it (goS s n) r i) i (s.1 i) (s.2.1 i) (nI n) := if_pos c
      rw [this]
      exact R2
    · have hg8 : g < 10 := by omega
      have sg := s_hasGuard (L := L) (xs := xs) (x := s.1 i) hl2 R2
      rw [c, inR_n hgG (by omega)] at sg
      have hs2 : stepOK (noteR (it (goS s n) r i) i (s.1 i) (s.2.1 i) (nI n)) G := step_note hi8 (step_it hs (by omega))
      simp (disch := first | with_reducible assumption | exact cat_int | exact cat_ref | exact cat_null | exact cat_ra | exact Nat.le_of_ble_eq_true rfl | (simp (disch := omega) only [hK_sI, hR_sI, hN_sI, hA_sI, hQ_sI, hL_sI, hn_sI, hK_sR, hI_sR, hN_sR, hA_sR, hQ_sR, hL_sR, hn_sR, hK_sA, hI_sA, hR_sA, hN_sA, hQ_sA, hL_sA, hn_sA, hK_sQ, hI_sQ, hR_sQ, hN_sQ, hA_sQ, hL_sQ, hn_sQ, hK_sL, hI_sL, hR_sL, hN_sL, hA_sL, hQ_sL, hn_sL, hK_cpA, hI_cpA, hR_cpA, hN_cpA, hQ_cpA, hL_cpA, hn_cpA, hK_bump, hI_bump, hR_bump, hN_bump, hA_bump, hQ_bump, hL_bump, hn_bump, hI_sI, hR_sR, hA_sA, hQ_sQ, hL_sL, hA_cpA, isS, cat_int, cat_ref, cat_null, cat_ra, wds_nil, wds_int, wds_ref, wds_long, wds_ra, nz5, nz7, nz2, idxN, inAN, if_true, if_false, b00, b11, b01, eq_self, true_or, or_true, false_or, or_false, true_and, and_true, false_and, and_false, not_true, not_false_eq_true, LS_k hl2, LS_r0 hl2, LS_r1 hl2, LS_r3 hl2, LS_r5 hl2, LS_k1 hl2, LS_n1 hl2, LS_k2 hl2, LS_n2 hl2, LS_k3 hl2, LS_n3 hl2, LS_k4 hl2, LS_n4 hl2, c, sg, LS_go hl2 hg8, LS_gq hl2 hg8, LS_po hl2 hi8, LS_pq hl2 hi8, R2.p0 hi]; done) | omega) only [iX5_takeNext_56, iX5_takeNext_57, iX5_takeNext_59, iX5_takeNext_62, iX5_takeNext_65, iX5_takeNext_66, iX5_takeNext_69, iX5_takeNext_71, iX5_takeNext_72, iX5_takeNext_73, iX5_takeNext_74, iX5_takeNext_77, iX5_takeNext_78, iX5_takeNext_79, iX5_takeNext_82, ↓reduceIte, ofN, reduceCtorEq, Bool.false_eq_true, Nat.reduceAdd, Nat.reduceMul, Nat.reduceEqDiff, Nat.reduceLeDiff, Nat.reduceLT, le_nlt, ite_not, Nat.lt_irrefl, Decidable.not_not, kn1, kn0, knite, isS, getS, cat_int, cat_ref, cat_null, cat_ra, wds_nil, wds_int, wds_ref, wds_long, wds_ra, b0, b01, b00, b11, b10, if_true, if_false, ite_self, not_true, not_false_eq_true, true_or, or_true, false_or, or_false, true_and, and_true, false_and, and_false, eq_self, idxN, inAN, nI_add, nI_mul, nI_sub, nz5, nz7, nz2, nI_ltN, Nat.add_zero, Nat.zero_add, hK_sI, hR_sI, hN_sI, hA_sI, hQ_sI, hL_sI, hn_sI, hK_sR, hI_sR, hN_sR, hA_sR, hQ_sR, hL_sR, hn_sR, hK_sA, hI_sA, hR_sA, hN_sA, hQ_sA, hL_sA, hn_sA, hK_sQ, hI_sQ, hR_sQ, hN_sQ, hA_sQ, hL_sQ, hn_sQ, hK_sL, hI_sL, hR_sL, hN_sL, hA_sL, hQ_sL, hn_sL, hK_cpA, hI_cpA, hR_cpA, hN_cpA, hQ_cpA, hL_cpA, hn_cpA, hK_bump, hI_bump, hR_bump, hN_bump, hA_bump, hQ_bump, hL_bump, hn_bump, hI_sI, hR_sR, hA_sA, hQ_sQ, hL_sL, hA_cpA, LS_k hl2, LS_r0 hl2, LS_r1 hl2, LS_r3 hl2, LS_r5 hl2, LS_k1 hl2, LS_n1 hl2, LS_k2 hl2, LS_n2 hl2, LS_k3 hl2, LS_n3 hl2, LS_k4 hl2, LS_n4 hl2, c, sg, LS_go hl2 hg8, LS_gq hl2 hg8, LS_po hl2 hi8, LS_pq hl2 hi8, R2.p0 hi]
      refine Ev_call (s_standAt (LS_go hl2 hg8) (by rw [R2.g3 hgG]; exact hs2 g hgG)) ?_
      rintro _ ⟨h3, rfl, f3, e3⟩
      rw [← c] at e3
      have R3 := Rl_pay (p := i) R2 hgG hi f3 e3
      simp (disch := first | with_reducible assumption | exact cat_int | exact cat_ref | exact cat_null | exact cat_ra | exact Nat.le_of_ble_eq_true rfl | (simp (disch := omega) only [hK_sI, hR_sI, hN_sI, hA_sI, hQ_sI, hL_sI, hn_sI, hK_sR, hI_sR, hN_sR, hA_sR, hQ_sR, hL_sR, hn_sR, hK_sA, hI_sA, hR_sA, hN_sA, hQ_sA, hL_sA, hn_sA, hK_sQ, hI_sQ, hR_sQ, hN_sQ, hA_sQ, hL_sQ, hn_sQ, hK_sL, hI_sL, hR_sL, hN_sL, hA_sL, hQ_sL, hn_sL, hK_cpA, hI_cpA, hR_cpA, hN_cpA, hQ_cpA, hL_cpA, hn_cpA, hK_bump, hI_bump, hR_bump, hN_bump, hA_bump, hQ_bump, hL_bump, hn_bump, hI_sI, hR_sR, hA_sA, hQ_sQ, hL_sL, hA_cpA, isS, cat_int, cat_ref, cat_null, cat_ra, wds_nil, wds_int, wds_ref, wds_long, wds_ra, nz5, nz7, nz2, idxN, inAN, if_true, if_false, b00, b11, b01, eq_self, true_or, or_true, false_or, or_false, true_and, and_true, false_and, and_false, not_true, not_false_eq_true]; done) | omega) only [iX5_takeNext_85, iX5_takeNext_88, ↓reduceIte, ofN, reduceCtorEq, Bool.false_eq_true, Nat.reduceAdd, Nat.reduceMul, Nat.reduceEqDiff, Nat.reduceLeDiff, Nat.reduceLT, le_nlt, ite_not, Nat.lt_irrefl, Decidable.not_not, kn1, kn0, knite, isS, getS, cat_int, cat_ref, cat_null, cat_ra, wds_nil, wds_int, wds_ref, wds_long, wds_ra, b0, b01, b00, b11, b10, if_true, if_false, ite_self, not_true, not_false_eq_true, true_or, or_true, false_or, or_false, true_and, and_true, false_and, and_false, eq_self, idxN, inAN, nI_add, nI_mul, nI_sub, nz5, nz7, nz2, nI_ltN, Nat.add_zero, Nat.zero_add, hK_sI, hR_sI, hN_sI, hA_sI, hQ_sI, hL_sI, hn_sI, hK_sR, hI_sR, hN_sR, hA_sR, hQ_sR, hL_sR, hn_sR, hK_sA, hI_sA, hR_sA, hN_sA, hQ_sA, hL_sA, hn_sA, hK_sQ, hI_sQ, hR_sQ, hN_sQ, hA_sQ, hL_sQ, hn_sQ, hK_sL, hI_sL, hR_sL, hN_sL, hA_sL, hQ_sL, hn_sL, hK_cpA, hI_cpA, hR_cpA, hN_cpA, hQ_cpA, hL_cpA, hn_cpA, hK_bump, hI_bump, hR_bump, hN_bump, hA_bump, hQ_bump, hL_bump, hn_bump, hI_sI, hR_sR, hA_sA, hQ_sQ, hL_sL, hA_cpA]
      refine k _ _ ⟨⟨_, rfl⟩, f2'.tr (f3.mono (fun j hj => Or.inr (by omega))), Ro_fr o2 f3 (fun j hj => by have := hj.1; have := hj.2; omega), ?_⟩
      have cn : ¬ s.1 i = -1 := by rw [c, nI_eqm (by omega)]; exact id
      have : it (goS s n) r (i + 1) = payR (noteR (it (goS s n) r i) i (s.1 i) (s.2.1 i) (nI n)) g i := by
        show goS s n i (it (goS s n) r i) = _
        unfold goS
        rw [if_neg cn]
        congr 1
        rw [c, idxN (by omega)]
      rw [this]
      exact R3
  · rintro Ls h' ⟨⟨v4, rfl⟩, f, o, R'⟩
    have hy' := f.y hy
    have hl' := f.st hl
    have sc := s_school (L := L) (xs := xs) (d := nI (n / 2)) hl' R'
    rw [sch_congr (r := r) hH6 (fun k hk => it_goS_lo hk)] at sc
    have cnt := fun (h9 : AH) => s_count (L := L) (xs := xs) (h := h9) (s := msk (nee r H (nI (n / 2)) (nI (n % 2))) P) (msk_10 _ (by omega))
    rw [iX5_takeNext_19]
    by_cases c : sch r (nI (n / 2)) H = true
    · simp (disch := first | with_reducible assumption | exact cat_int | exact cat_ref | exact cat_null | exact cat_ra | exact Nat.le_of_ble_eq_true rfl | (simp (disch := omega) only [hK_sI, hR_sI, hN_sI, hA_sI, hQ_sI, hL_sI, hn_sI, hK_sR, hI_sR, hN_sR, hA_sR, hQ_sR, hL_sR, hn_sR, hK_sA, hI_sA, hR_sA, hN_sA, hQ_sA, hL_sA, hn_sA, hK_sQ, hI_sQ, hR_sQ, hN_sQ, hA_sQ, hL_sQ, hn_sQ, hK_sL, hI_sL, hR_sL, hN_sL, hA_sL, hQ_sL, hn_sL, hK_cpA, hI_cpA, hR_cpA, hN_cpA, hQ_cpA, hL_cpA, hn_cpA, hK_bump, hI_bump, hR_bump, hN_bump, hA_bump, hQ_bump, hL_bump, hn_bump, hI_sI, hR_sR, hA_sA, hQ_sQ, hL_sL, hA_cpA, isS, cat_int, cat_ref, cat_null, cat_ra, wds_nil, wds_int, wds_ref, wds_long, wds_ra, nz5, nz7, nz2, idxN, inAN, if_true, if_false, b00, b11, b01, eq_self, true_or, or_true, false_or, or_false, true_and, and_true, false_and, and_false, not_true, not_false_eq_true, LS_k hl', LS_r0 hl', LS_r1 hl', LS_r3 hl', LS_r5 hl', LS_k1 hl', LS_n1 hl', LS_k2 hl', LS_n2 hl', LS_k3 hl', LS_n3 hl', LS_k4 hl', LS_n4 hl', Y_k48 hy', R'.hP, R'.hn, sc, c, cnt, o.ne, o.op, Ev_some]; done) | omega) only [iX5_takeNext_20, iX5_takeNext_21, iX5_takeNext_24, iX5_takeNext_27, iX5_takeNext_28, iX5_takeNext_31, iX5_takeNext_32, iX5_takeNext_33, iX5_takeNext_35, iX5_takeNext_36, iX5_takeNext_39, iX5_takeNext_40, iX5_takeNext_41, iX5_takeNext_43, iX5_takeNext_44, iX5_takeNext_47, iX5_takeNext_48, iX5_takeNext_49, iX5_takeNext_50, iX5_takeNext_53, iX5_takeNext_56, iX5_takeNext_57, iX5_takeNext_59, iX5_takeNext_62, iX5_takeNext_65, iX5_takeNext_66, iX5_takeNext_69, iX5_takeNext_71, iX5_takeNext_72, iX5_takeNext_73, iX5_takeNext_74, iX5_takeNext_77, iX5_takeNext_78, iX5_takeNext_79, iX5_takeNext_82, iX5_takeNext_85, iX5_takeNext_88, iX5_takeNext_91, iX5_takeNext_92, iX5_takeNext_93, iX5_takeNext_96, iX5_takeNext_99, iX5_takeNext_100, iX5_takeNext_100i, iX5_takeNext_101, iX5_takeNext_104, iX5_takeNext_105, iX5_takeNext_106, iX5_takeNext_109, iX5_takeNext_110, iX5_takeNext_110i, iX5_takeNext_111, iX5_takeNext_114, iX5_takeNext_115, iX5_takeNext_118, iX5_takeNext_121, iX5_takeNext_122, iX5_takeNext_125, iX5_takeNext_126, iX5_takeNext_126i, iX5_takeNext_127, iX5_takeNext_130, iX5_takeNext_131, iX5_takeNext_132, iX5_takeNext_135, iX5_takeNext_136, iX5_takeNext_139, ↓reduceIte, ofN, reduceCtorEq, Bool.false_eq_true, Nat.reduceAdd, Nat.reduceMul, Nat.reduceEqDiff, Nat.reduceLeDiff, Nat.reduceLT, le_nlt, ite_not, Nat.lt_irrefl, Decidable.not_not, kn1, kn0, knite, isS, getS, cat_int, cat_ref, cat_null, cat_ra, wds_nil, wds_int, wds_ref, wds_long, wds_ra, b0, b01, b00, b11, b10, if_true, if_false, ite_self, not_true, not_false_eq_true, true_or, or_true, false_or, or_false, true_and, and_true, false_and, and_false, eq_self, idxN, inAN, nI_add, nI_mul, nI_sub, nz5, nz7, nz2, nI_ltN, Nat.add_zero, Nat.zero_add, hK_sI, hR_sI, hN_sI, hA_sI, hQ_sI, hL_sI, hn_sI, hK_sR, hI_sR, hN_sR, hA_sR, hQ_sR, hL_sR, hn_sR, hK_sA, hI_sA, hR_sA, hN_sA, hQ_sA, hL_sA, hn_sA, hK_sQ, hI_sQ, hR_sQ, hN_sQ, hA_sQ, hL_sQ, hn_sQ, hK_sL, hI_sL, hR_sL, hN_sL, hA_sL, hQ_sL, hn_sL, hK_cpA, hI_cpA, hR_cpA, hN_cpA, hQ_cpA, hL_cpA, hn_cpA, hK_bump, hI_bump, hR_bump, hN_bump, hA_bump, hQ_bump, hL_bump, hn_bump, hI_sI, hR_sR, hA_sA, hQ_sQ, hL_sL, hA_cpA, LS_k hl', LS_r0 hl', LS_r1 hl', LS_r3 hl', LS_r5 hl', LS_k1 hl', LS_n1 hl', LS_k2 hl', LS_n2 hl', LS_k3 hl', LS_n3 hl', LS_k4 hl', LS_n4 hl', Y_k48 hy', R'.hP, R'.hn, sc, c, cnt, o.ne, o.op, Ev_some]
      refine ⟨_, rfl, Fr.wI (Fr.wI (Fr.wI f (Or.inr ⟨by omega, by omega⟩)) (Or.inr ⟨by omega, by omega⟩)) (Or.inr ⟨by omega, by omega⟩), ?_⟩
      refine Rl_hd R' (by (repeat' (first | (with_reducible refine Fr.wI ?_ ?_) | (with_reducible refine Fr.wA ?_ ?_) | (with_reducible refine Fr.wC ?_ ?_))); all_goals first | (with_reducible exact Fr.rfl) | rfl | (show _ ∧ _; omega)) hn9 ?_ ?_ ?_ ?_ ?_ ?_ ?_
      · simp [hI_sI]; exact R'.hH
      · simp [hI_sI]; exact R'.hP
      · simp [hI_sI]; exact R'.hG
      · simp [hI_sI]
      · have e5 := R'.h5
        rw [it_goS_lo (by omega)] at e5
        simp [hI_sI, goR, c, e5]
      · have e6 := R'.h6
        rw [it_goS_lo (by omega)] at e6
        simp [hI_sI, goR, e6]
      · intro k hk
        unfold goR
        rw [if_neg (by omega), if_neg (by omega), if_neg (by omega), if_neg (by omega), if_neg (by omega)]
    · simp (disch := first | with_reducible assumption | exact cat_int | exact cat_ref | exact cat_null | exact cat_ra | exact Nat.le_of_ble_eq_true rfl | (simp (disch := omega) only [hK_sI, hR_sI, hN_sI, hA_sI, hQ_sI, hL_sI, hn_sI, hK_sR, hI_sR, hN_sR, hA_sR, hQ_sR, hL_sR, hn_sR, hK_sA, hI_sA, hR_sA, hN_sA, hQ_sA, hL_sA, hn_sA, hK_sQ, hI_sQ, hR_sQ, hN_sQ, hA_sQ, hL_sQ, hn_sQ, hK_sL, hI_sL, hR_sL, hN_sL, hA_sL, hQ_sL, hn_sL, hK_cpA, hI_cpA, hR_cpA, hN_cpA, hQ_cpA, hL_cpA, hn_cpA, hK_bump, hI_bump, hR_bump, hN_bump, hA_bump, hQ_bump, hL_bump, hn_bump, hI_sI, hR_sR, hA_sA, hQ_sQ, hL_sL, hA_cpA, isS, cat_int, cat_ref, cat_null, cat_ra, wds_nil, wds_int, wds_ref, wds_long, wds_ra, nz5, nz7, nz2, idxN, inAN, if_true, if_false, b00, b11, b01, eq_self, true_or, or_true, false_or, or_false, true_and, and_true, false_and, and_false, not_true, not_false_eq_true, LS_k hl', LS_r0 hl', LS_r1 hl', LS_r3 hl', LS_r5 hl', LS_k1 hl', LS_n1 hl', LS_k2 hl', LS_n2 hl', LS_k3 hl', LS_n3 hl', LS_k4 hl', LS_n4 hl', Y_k48 hy', R'.hP, R'.hn, sc, c, cnt, o.ne, o.op, Ev_some]; done) | omega) only [iX5_takeNext_20, iX5_takeNext_21, iX5_takeNext_24, iX5_takeNext_27, iX5_takeNext_28, iX5_takeNext_31, iX5_takeNext_32, iX5_takeNext_33, iX5_takeNext_35, iX5_takeNext_36, iX5_takeNext_39, iX5_takeNext_40, iX5_takeNext_41, iX5_takeNext_43, iX5_takeNext_44, iX5_takeNext_47, iX5_takeNext_48, iX5_takeNext_49, iX5_takeNext_50, iX5_takeNext_53, iX5_takeNext_56, iX5_takeNext_57, iX5_takeNext_59, iX5_takeNext_62, iX5_takeNext_65, iX5_takeNext_66, iX5_takeNext_69, iX5_takeNext_71, iX5_takeNext_72, iX5_takeNext_73, iX5_takeNext_74, iX5_takeNext_77, iX5_takeNext_78, iX5_takeNext_79, iX5_takeNext_82, iX5_takeNext_85, iX5_takeNext_88, iX5_takeNext_91, iX5_takeNext_92, iX5_takeNext_93, iX5_takeNext_96, iX5_takeNext_99, iX5_takeNext_100, iX5_takeNext_100i, iX5_takeNext_101, iX5_takeNext_104, iX5_takeNext_105, iX5_takeNext_106, iX5_takeNext_109, iX5_takeNext_110, iX5_takeNext_110i, iX5_takeNext_111, iX5_takeNext_114, iX5_takeNext_115, iX5_takeNext_118, iX5_takeNext_121, iX5_takeNext_122, iX5_takeNext_125, iX5_takeNext_126, iX5_takeNext_126i, iX5_takeNext_127, iX5_takeNext_130, iX5_takeNext_131, iX5_takeNext_132, iX5_takeNext_135, iX5_takeNext_136, iX5_takeNext_139, ↓reduceIte, ofN, reduceCtorEq, Bool.false_eq_true, Nat.reduceAdd, Nat.reduceMul, Nat.reduceEqDiff, Nat.reduceLeDiff, Nat.reduceLT, le_nlt, ite_not, Nat.lt_irrefl, Decidable.not_not, kn1, kn0, knite, isS, getS, cat_int, cat_ref, cat_null, cat_ra, wds_nil, wds_int, wds_ref, wds_long, wds_ra, b0, b01, b00, b11, b10, if_true, if_false, ite_self, not_true, not_false_eq_true, true_or, or_true, false_or, or_false, true_and, and_true, false_and, and_false, eq_self, idxN, inAN, nI_add, nI_mul, nI_sub, nz5, nz7, nz2, nI_ltN, Nat.add_zero, Nat.zero_add, hK_sI, hR_sI, hN_sI, hA_sI, hQ_sI, hL_sI, hn_sI, hK_sR, hI_sR, hN_sR, hA_sR, hQ_sR, hL_sR, hn_sR, hK_sA, hI_sA, hR_sA, hN_sA, hQ_sA, hL_sA, hn_sA, hK_sQ, hI_sQ, hR_sQ, hN_sQ, hA_sQ, hL_sQ, hn_sQ, hK_sL, hI_sL, hR_sL, hN_sL, hA_sL, hQ_sL, hn_sL, hK_cpA, hI_cpA, hR_cpA, hN_cpA, hQ_cpA, hL_cpA, hn_cpA, hK_bump, hI_bump, hR_bump, hN_bump, hA_bump, hQ_bump, hL_bump, hn_bump, hI_sI, hR_sR, hA_sA, hQ_sQ, hL_sL, hA_cpA, LS_k hl', LS_r0 hl', LS_r1 hl', LS_r3 hl', LS_r5 hl', LS_k1 hl', LS_n1 hl', LS_k2 hl', LS_n2 hl', LS_k3 hl', LS_n3 hl', LS_k4 hl', LS_n4 hl', Y_k48 hy', R'.hP, R'.hn, sc, c, cnt, o.ne, o.op, Ev_some]
      refine ⟨_, rfl, Fr.wI (Fr.wI f (Or.inr ⟨by omega, by omega⟩)) (Or.inr ⟨by omega, by omega⟩), ?_⟩
      refine Rl_hd R' (by (repeat' (first | (with_reducible refine Fr.wI ?_ ?_) | (with_reducible refine Fr.wA ?_ ?_) | (with_reducible refine Fr.wC ?_ ?_))); all_goals first | (with_reducible exact Fr.rfl) | rfl | (show _ ∧ _; omega)) hn9 ?_ ?_ ?_ ?_ ?_ ?_ ?_
      · simp [hI_sI]; exact R'.hH
      · simp [hI_sI]; exact R'.hP
      · simp [hI_sI]; exact R'.hG
      · simp [hI_sI]
      · have e5 := R'.h5
        rw [it_goS_lo (by omega)] at e5
        have z : r 5 + nI 0 = r 5 := Int32.add_zero _
        simp [hI_sI, goR, c, e5, z]
      · have e6 := R'.h6
        rw [it_goS_lo (by omega)] at e6
        simp [hI_sI, goR, e6]
      · intro k hk
        unfold goR
        rw [if_neg (by omega), if_neg (by omega), if_neg (by omega), if_neg (by omega), if_neg (by omega)]
end
