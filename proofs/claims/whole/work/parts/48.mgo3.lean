/-! THE MODEL: go, passNow -/
theorem wlI_none {r : Rw} {d : Int32} : wlI r d none = wl r d := by
  funext g
  simp [wlI, wl]
theorem sch_congr9 {r r' : Rw} {d : Int32} : ∀ {i : Nat}, i ≤ 6 → (∀ k, 9 ≤ k → k < 21 → r' k = r k) → sch r' d i = sch r d i
  | 0, _, _ => rfl
  | i + 1, h, e => by
    unfold sch
    rw [sch_congr9 (by omega) e, e _ (by omega) (by omega), e _ (by omega) (by omega)]
theorem nee_congr {r r' : Rw} {H : Nat} {d s : Int32} {p : Nat} (hH : H ≤ 6) (e : ∀ k, 9 ≤ k → k < 21 → r' k = r k) (e2 : r' (22 + 9 * p) = r (22 + 9 * p)) : nee r' H d s p = nee r H d s p := by
  unfold nee
  rw [sch_congr9 hH e, e2]
theorem goS_pl {s : LK} {n p k : Nat} {r : Rw} (hk : k < 93) (h1 : ¬ k = 28 + 9 * p) (h2 : ¬ k = 29 + 9 * p) (h3 : ¬ k = 23 + 9 * p) (h4 : ¬ k = 25 + 9 * p) : goS s n p r k = r k := by
  have e : noteR r p (s.1 p) (s.2.1 p) (nI n) k = r k := by
    unfold noteR
    rw [if_neg h1, if_neg h2, if_neg (fun z => h3 z.1), if_neg (fun z => h4 z.1)]
  unfold goS
  split
  · exact e
  · rw [payR_lo hk]; exact e
theorem itS_pl {s : LK} {n k : Nat} {r : Rw} (hk : k < 93) (h : ∀ p, ¬ k = 28 + 9 * p ∧ ¬ k = 29 + 9 * p ∧ ¬ k = 23 + 9 * p ∧ ¬ k = 25 + 9 * p) : ∀ {i : Nat}, it (goS s n) r i k = r k
  | 0 => rfl
  | i + 1 => (goS_pl hk (h i).1 (h i).2.1 (h i).2.2.1 (h i).2.2.2).trans (itS_pl hk h)
theorem rowOK.to {r r' : Rw} {H P G n : Nat} (ok : rowOK r H P G n) (e : ∀ k, k < 5 → r' k = r k) (e2 : ∀ p, p < P → r' (21 + 9 * p) = r (21 + 9 * p)) (e3 : ∀ g, g < G → r' (93 + 9 * g) = r (93 + 9 * g)) : rowOK r' H P G n := by
  obtain ⟨a1, a2, a3, a4, a5, a6, a7, a8, a9, a10, a11⟩ := ok
  refine ⟨a1, a2, a3, a4, by rw [e 0 (by omega)]; exact a5, by rw [e 1 (by omega)]; exact a6, by rw [e 2 (by omega)]; exact a7, by rw [e 3 (by omega)]; exact a8, by rw [e 4 (by omega)]; exact a9, fun p hp => ?_, fun g hg => ?_⟩
  · rw [e2 p hp]; exact a10 p hp
  · rw [e3 g hg]; exact a11 g hg
def inMb (b i : Nat) : Prop := inMo i ∨ i = b
section
variable {L : Nat} {xs : Nat → Int32} {h h2 : AH} {b H P G n : Nat} {r : Rw} {o : Option Nat} {s : LK} {W nd : Nat → Bool}
/-- a row under way -/
theorem mid_ok {f r : Rw} {a v c : Int32} (ok : rowOK r H P G n) (e1 : ∀ k, k < 21 → f k = r k) (e2 : ∀ p, p < P → f (21 + 9 * p) = r (21 + 9 * p)) (e3 : ∀ g, g < G → f (93 + 9 * g) = r (93 + 9 * g)) : rowOK (ov a v c f) H P G n := by
  have e : ∀ k, ¬ k = 5 → ¬ k = 6 → ¬ k = 7 → ov a v c f k = f k := fun k h5 h6 h7 => by unfold ov; rw [if_neg h5, if_neg h6, if_neg h7]
  refine ok.to (fun k hk => ?_) (fun p hp => ?_) (fun g hg => ?_)
  · rw [e k (by omega) (by omega) (by omega)]; exact e1 k (by omega)
  · rw [e _ (by omega) (by omega) (by omega)]; exact e2 p hp
  · rw [e _ (by omega) (by omega) (by omega)]; exact e3 g hg
theorem ov_at {f : Rw} {a v c : Int32} {k : Nat} (h5 : ¬ k = 5) (h6 : ¬ k = 6) (h7 : ¬ k = 7) : ov a v c f k = f k := by
  unfold ov
  rw [if_neg h5, if_neg h6, if_neg h7]
theorem note_pl {f : Rw} {p q : Nat} {w y se : Int32} : noteR f p w y se (21 + 9 * q) = f (21 + 9 * q) := by
  unfold noteR
  rw [if_neg (by omega), if_neg (by omega), if_neg (by omega), if_neg (by omega)]
/-- one post's part of a session -/
theorem go_step {i : Nat} {f : Rw} {a v c : Int32} {wh yy : Int32} {op : Nat} {Q : Res → Prop} {ndi : Bool} (y : LayF h) (hb : b = 152 ∨ b = 153) (ba : hA h b = ov a v c f) (ok : rowOK r H P G n) (il : hI h 122 151 = -1)
    (f1 : ∀ k, k < 21 → f k = r k) (f2 : ∀ p, p < P → f (21 + 9 * p) = r (21 + 9 * p)) (f3 : ∀ g, f (93 + 9 * g) = r (93 + 9 * g)) (f4 : f (22 + 9 * i) = r (22 + 9 * i)) (hi : i < P)
    (ew : hA h 156 i = wh) (ey : hA h 157 i = yy) (ho : op < 256) (hoy : op.testBit i = true ↔ ¬ yy = nI 0) (hw : wh = -1 ∨ ∃ g, g < G ∧ wh = nI g) (hnd : nee r H (nI (n / 2)) (nI (n % 2)) i = ndi)
    (K : ∀ h', Fr (fun j => j = b) h h' → hA h' b = ov a (v + nI (b2n ndi)) c (if wh = -1 then noteR f i wh yy (nI n) else payR (noteR f i wh yy (nI n)) wh.toNatClampNeg i) → Ev (ev L xs mdX7_go 53 [.ref 151, .ref b, .int (nI n), .int (nI op), .int (nI (i + 1))] [] h') Q) : Ev (ev L xs mdX7_go 53 [.ref 151, .ref b, .int (nI n), .int (nI op), .int (nI i)] [] h) Q := by
  have P8 := ok.2.1
  have H6 := ok.1
  have G10 := ok.2.2.1
  have i8 : i < 8 := by omega
  have ok1 : rowOK (ov a v c f) H P G n := mid_ok ok f1 (fun p hp => f2 p hp) (fun g _ => f3 g)
  have x1 : Mx h b (ov a v c f) H P G n none := ⟨y, hb, ba, ok1, il⟩
  have bk := x1.k
  have bl := x1.le
  have nb6 : (156 = b) = False := eqF (by omega)
  have nb7 : (157 = b) = False := eqF (by omega)
  have M0 := x1.r0
  have M1 := x1.r1
  have M3 := x1.r3
  have M6 : ov a v c f 6 = v := rfl
  have M23 : ov a v c f (23 + 9 * i) = f (23 + 9 * i) := ov_at (by omega) (by omega) (by omega)
  have g2 : Fr (fun j => j = b) h (sA (sA h b (28 + 9 * i) wh) b (29 + 9 * i) yy) := Fr.wA (S := fun j => j = b) (Fr.wA (S := fun j => j = b) Fr.rfl rfl) rfl
  have ba2 : hA (sA (sA h b (28 + 9 * i) wh) b (29 + 9 * i) yy) b = pu (pu (ov a v c f) (28 + 9 * i) wh) (29 + 9 * i) yy := by rw [hA_pu, hA_pu, ba]
  have n151 : ¬ (151 = b) := by omega
  have pu2 : ∀ k, ¬ k = 28 + 9 * i → ¬ k = 29 + 9 * i → pu (pu (ov a v c f) (28 + 9 * i) wh) (29 + 9 * i) yy k = ov a v c f k := by
    intro k h1 h2
    unfold pu
    rw [if_neg h2, if_neg h1]
  have ok2 : rowOK (pu (pu (ov a v c f) (28 + 9 * i) wh) (29 + 9 * i) yy) H P G n := ok1.to (fun k hk => pu2 k (by omega) (by omega)) (fun p hp => pu2 _ (by omega) (by omega)) (fun g hg => pu2 _ (by omega) (by omega))
  have x2 : Mx (sA (sA h b (28 + 9 * i) wh) b (29 + 9 * i) yy) b (pu (pu (ov a v c f) (28 + 9 * i) wh) (29 + 9 * i) yy) H P G n none := ⟨g2.y y, hb, ba2, ok2, by rw [g2.fi n151]; exact il⟩
  have nn := d_needed (L := L) (xs := xs) (d := nI (n / 2)) (s := nI (n % 2)) x2 i8
  have nc : nee (pu (pu (ov a v c f) (28 + 9 * i) wh) (29 + 9 * i) yy) H (nI (n / 2)) (nI (n % 2)) i = ndi := by
    rw [← hnd]
    refine nee_congr H6 (fun k h1 h2 => ?_) ?_
    · rw [pu2 k (by omega) (by omega), ov_at (by omega) (by omega) (by omega)]; exact f1 k h2
    · rw [pu2 _ (by omega) (by omega), ov_at (by omega) (by omega) (by omega)]; exact f4
  rw [nc] at nn
  have bit := m_in (s := op) (i := i) (by omega) (by omega)
  have r1 : ev L xs mdX7_go 53 [.ref 151, .ref b, .int (nI n), .int (nI op), .int (nI i)] [] h = ev L xs mdX7_go 118 [.ref 151, .ref b, .int (nI n), .int (nI op), .int (nI i)] [] (sA (sA (sA h b (28 + 9 * i) wh) b (29 + 9 * i) yy) b 6 (v + nI (b2n ndi))) := by
    cases ndi with
    | false =>
      have e : nI (b2n false) = nI 0 := rfl
      rw [e]
      simp (disch := first | with_reducible assumption | exact cat_int | exact cat_ref | exact cat_null | exact cat_ra | exact Nat.le_of_ble_eq_true rfl | (simp (disch := omega) only [hK_sI, hR_sI, hN_sI, hA_sI, hQ_sI, hL_sI, hn_sI, hK_sR, hI_sR, hN_sR, hA_sR, hQ_sR, hL_sR, hn_sR, hK_sA, hI_sA, hR_sA, hN_sA, hQ_sA, hL_sA, hn_sA, hK_sQ, hI_sQ, hR_sQ, hN_sQ, hA_sQ, hL_sQ, hn_sQ, hK_sL, hI_sL, hR_sL, hN_sL, hA_sL, hQ_sL, hn_sL, hK_cpA, hI_cpA, hR_cpA, hN_cpA, hQ_cpA, hL_cpA, hn_cpA, hK_bump, hI_bump, hR_bump, hN_bump, hA_bump, hQ_bump, hL_bump, hn_bump, hI_sI, hR_sR, hA_sA, hQ_sQ, hL_sL, hA_cpA, isS, cat_int, cat_ref, cat_null, cat_ra, wds_nil, wds_int, wds_ref, wds_long, wds_ra, nz5, nz7, nz2, idxN, inAN, if_true, if_false, b00, b11, b01, eq_self, true_or, or_true, false_or, or_false, true_and, and_true, false_and, and_false, not_true, not_false_eq_true, bk, bl, ba, hi, i8, Y_k151 y, Y_r119 y, Y_r120 y, Y_k156 y, Y_n156 y, Y_k157 y, Y_n157 y, d_put7, d_put8, ew, ey, nb6, nb7, M0, M1, M3, M6, nn, eqF]; done) | omega) only [iX7_go_53, iX7_go_55, iX7_go_56, iX7_go_57, iX7_go_58, iX7_go_61, iX7_go_62, iX7_go_64, iX7_go_66, iX7_go_67, iX7_go_70, iX7_go_72, iX7_go_73, iX7_go_76, iX7_go_77, iX7_go_79, iX7_go_81, iX7_go_82, iX7_go_85, iX7_go_87, iX7_go_88, iX7_go_91, iX7_go_92, iX7_go_94, iX7_go_95, iX7_go_96, iX7_go_97, iX7_go_99, iX7_go_100, iX7_go_101, iX7_go_102, iX7_go_103, iX7_go_104, iX7_go_105, iX7_go_108, iX7_go_111, iX7_go_112, iX7_go_115, iX7_go_116, iX7_go_117, ↓reduceIte, ofN, reduceCtorEq, Bool.false_eq_true, Nat.reduceAdd, Nat.reduceMul, Nat.reduceEqDiff, Nat.reduceLeDiff, Nat.reduceLT, le_nlt, ite_not, Nat.lt_irrefl, Decidable.not_not, kn1, kn0, knite, isS, getS, cat_int, cat_ref, cat_null, cat_ra, wds_nil, wds_int, wds_ref, wds_long, wds_ra, b0, b01, b00, b11, b10, if_true, if_false, ite_self, not_true, not_false_eq_true, true_or, or_true, false_or, or_false, true_and, and_true, false_and, and_false, eq_self, idxN, inAN, nI_add, nI_mul, nI_sub, nz5, nz7, nz2, nI_ltN, Nat.add_zero, Nat.zero_add, hK_sI, hR_sI, hN_sI, hA_sI, hQ_sI, hL_sI, hn_sI, hK_sR, hI_sR, hN_sR, hA_sR, hQ_sR, hL_sR, hn_sR, hK_sA, hI_sA, hR_sA, hN_sA, hQ_sA, hL_sA, hn_sA, hK_sQ, hI_sQ, hR_sQ, hN_sQ, hA_sQ, hL_sQ, hn_sQ, hK_sL, hI_sL, hR_sL, hN_sL, hA_sL, hQ_sL, hn_sL, hK_cpA, hI_cpA, hR_cpA, hN_cpA, hQ_cpA, hL_cpA, hn_cpA, hK_bump, hI_bump, hR_bump, hN_bump, hA_bump, hQ_bump, hL_bump, hn_bump, hI_sI, hR_sR, hA_sA, hQ_sQ, hL_sL, hA_cpA, bk, bl, ba, hi, i8, Y_k151 y, Y_r119 y, Y_r120 y, Y_k156 y, Y_n156 y, Y_k157 y, Y_n157 y, d_put7, d_put8, ew, ey, nb6, nb7, M0, M1, M3, M6, nn, eqF]
    | true =>
      have e : nI (b2n true) = nI 1 := rfl
      rw [e]
      simp (disch := first | with_reducible assumption | exact cat_int | exact cat_ref | exact cat_null | exact cat_ra | exact Nat.le_of_ble_eq_true rfl | (simp (disch := omega) only [hK_sI, hR_sI, hN_sI, hA_sI, hQ_sI, hL_sI, hn_sI, hK_sR, hI_sR, hN_sR, hA_sR, hQ_sR, hL_sR, hn_sR, hK_sA, hI_sA, hR_sA, hN_sA, hQ_sA, hL_sA, hn_sA, hK_sQ, hI_sQ, hR_sQ, hN_sQ, hA_sQ, hL_sQ, hn_sQ, hK_sL, hI_sL, hR_sL, hN_sL, hA_sL, hQ_sL, hn_sL, hK_cpA, hI_cpA, hR_cpA, hN_cpA, hQ_cpA, hL_cpA, hn_cpA, hK_bump, hI_bump, hR_bump, hN_bump, hA_bump, hQ_bump, hL_bump, hn_bump, hI_sI, hR_sR, hA_sA, hQ_sQ, hL_sL, hA_cpA, isS, cat_int, cat_ref, cat_null, cat_ra, wds_nil, wds_int, wds_ref, wds_long, wds_ra, nz5, nz7, nz2, idxN, inAN, if_true, if_false, b00, b11, b01, eq_self, true_or, or_true, false_or, or_false, true_and, and_true, false_and, and_false, not_true, not_false_eq_true, bk, bl, ba, hi, i8, Y_k151 y, Y_r119 y, Y_r120 y, Y_k156 y, Y_n156 y, Y_k157 y, Y_n157 y, d_put7, d_put8, ew, ey, nb6, nb7, M0, M1, M3, M6, nn, eqF]; done) | omega) only [iX7_go_53, iX7_go_55, iX7_go_56, iX7_go_57, iX7_go_58, iX7_go_61, iX7_go_62, iX7_go_64, iX7_go_66, iX7_go_67, iX7_go_70, iX7_go_72, iX7_go_73, iX7_go_76, iX7_go_77, iX7_go_79, iX7_go_81, iX7_go_82, iX7_go_85, iX7_go_87, iX7_go_88, iX7_go_91, iX7_go_92, iX7_go_94, iX7_go_95, iX7_go_96, iX7_go_97, iX7_go_99, iX7_go_100, iX7_go_101, iX7_go_102, iX7_go_103, iX7_go_104, iX7_go_105, iX7_go_108, iX7_go_111, iX7_go_112, iX7_go_115, iX7_go_116, iX7_go_117, ↓reduceIte, ofN, reduceCtorEq, Bool.false_eq_true, Nat.reduceAdd, Nat.reduceMul, Nat.reduceEqDiff, Nat.reduceLeDiff, Nat.reduceLT, le_nlt, ite_not, Nat.lt_irrefl, Decidable.not_not, kn1, kn0, knite, isS, getS, cat_int, cat_ref, cat_null, cat_ra, wds_nil, wds_int, wds_ref, wds_long, wds_ra, b0, b01, b00, b11, b10, if_true, if_false, ite_self, not_true, not_false_eq_true, true_or, or_true, false_or, or_false, true_and, and_true, false_and, and_false, eq_self, idxN, inAN, nI_add, nI_mul, nI_sub, nz5, nz7, nz2, nI_ltN, Nat.add_zero, Nat.zero_add, hK_sI, hR_sI, hN_sI, hA_sI, hQ_sI, hL_sI, hn_sI, hK_sR, hI_sR, hN_sR, hA_sR, hQ_sR, hL_sR, hn_sR, hK_sA, hI_sA, hR_sA, hN_sA, hQ_sA, hL_sA, hn_sA, hK_sQ, hI_sQ, hR_sQ, hN_sQ, hA_sQ, hL_sQ, hn_sQ, hK_sL, hI_sL, hR_sL, hN_sL, hA_sL, hQ_sL, hn_sL, hK_cpA, hI_cpA, hR_cpA, hN_cpA, hQ_cpA, hL_cpA, hn_cpA, hK_bump, hI_bump, hR_bump, hN_bump, hA_bump, hQ_bump, hL_bump, hn_bump, hI_sI, hR_sR, hA_sA, hQ_sQ, hL_sL, hA_cpA, bk, bl, ba, hi, i8, Y_k151 y, Y_r119 y, Y_r120 y, Y_k156 y, Y_n156 y, Y_k157 y, Y_n157 y, d_put7, d_put8, ew, ey, nb6, nb7, M0, M1, M3, M6, nn, eqF]
  rw [r1]
  generalize hv6 : v + nI (b2n ndi) = v6 at *
  have key : ∀ h9, Fr (fun j => j = b) h h9 → hA h9 b = ov a v6 c (noteR f i wh yy (nI n)) → Ev (ev L xs mdX7_go 152 [.ref 151, .ref b, .int (nI n), .int (nI op), .int (nI i)] [] h9) Q := by
    intro h9 g9 b9
    have y9 := g9.y y
    have w9 : hA h9 156 i = wh := by rw [g9.ar (by omega)]; exact ew
    rcases hw with c1 | ⟨g, hg, c1⟩
    · rw [if_pos c1] at K
      simp (disch := first | with_reducible assumption | exact cat_int | exact cat_ref | exact cat_null | exact cat_ra | exact Nat.le_of_ble_eq_true rfl | (simp (disch := omega) only [hK_sI, hR_sI, hN_sI, hA_sI, hQ_sI, hL_sI, hn_sI, hK_sR, hI_sR, hN_sR, hA_sR, hQ_sR, hL_sR, hn_sR, hK_sA, hI_sA, hR_sA, hN_sA, hQ_sA, hL_sA, hn_sA, hK_sQ, hI_sQ, hR_sQ, hN_sQ, hA_sQ, hL_sQ, hn_sQ, hK_sL, hI_sL, hR_sL, hN_sL, hA_sL, hQ_sL, hn_sL, hK_cpA, hI_cpA, hR_cpA, hN_cpA, hQ_cpA, hL_cpA, hn_cpA, hK_bump, hI_bump, hR_bump, hN_bump, hA_bump, hQ_bump, hL_bump, hn_bump, hI_sI, hR_sR, hA_sA, hQ_sQ, hL_sL, hA_cpA, isS, cat_int, cat_ref, cat_null, cat_ra, wds_nil, wds_int, wds_ref, wds_long, wds_ra, nz5, nz7, nz2, idxN, inAN, if_true, if_false, b00, b11, b01, eq_self, true_or, or_true, false_or, or_false, true_and, and_true, false_and, and_false, not_true, not_false_eq_true, Y_k151 y9, Y_r119 y9, Y_k156 y9, Y_n156 y9, i8, w9, c1]; done) | omega) only [iX7_go_152, iX7_go_153, iX7_go_156, iX7_go_158, iX7_go_159, iX7_go_160, iX7_go_163, iX7_go_164, iX7_go_165, iX7_go_166, iX7_go_169, iX7_go_171, iX7_go_172, iX7_go_174, iX7_go_177, iX7_go_180, ↓reduceIte, ofN, reduceCtorEq, Bool.false_eq_true, Nat.reduceAdd, Nat.reduceMul, Nat.reduceEqDiff, Nat.reduceLeDiff, Nat.reduceLT, le_nlt, ite_not, Nat.lt_irrefl, Decidable.not_not, kn1, kn0, knite, isS, getS, cat_int, cat_ref, cat_null, cat_ra, wds_nil, wds_int, wds_ref, wds_long, wds_ra, b0, b01, b00, b11, b10, if_true, if_false, ite_self, not_true, not_false_eq_true, true_or, or_true, false_or, or_false, true_and, and_true, false_and, and_false, eq_self, idxN, inAN, nI_add, nI_mul, nI_sub, nz5, nz7, nz2, nI_ltN, Nat.add_zero, Nat.zero_add, hK_sI, hR_sI, hN_sI, hA_sI, hQ_sI, hL_sI, hn_sI, hK_sR, hI_sR, hN_sR, hA_sR, hQ_sR, hL_sR, hn_sR, hK_sA, hI_sA, hR_sA, hN_sA, hQ_sA, hL_sA, hn_sA, hK_sQ, hI_sQ, hR_sQ, hN_sQ, hA_sQ, hL_sQ, hn_sQ, hK_sL, hI_sL, hR_sL, hN_sL, hA_sL, hQ_sL, hn_sL, hK_cpA, hI_cpA, hR_cpA, hN_cpA, hQ_cpA, hL_cpA, hn_cpA, hK_bump, hI_bump, hR_bump, hN_bump, hA_bump, hQ_bump, hL_bump, hn_bump, hI_sI, hR_sR, hA_sA, hQ_sQ, hL_sL, hA_cpA, Y_k151 y9, Y_r119 y9, Y_k156 y9, Y_n156 y9, i8, w9, c1]
      exact K _ g9 b9
    · have g10 : g < 10 := by omega
      have cn : ¬ nI g = -1 := ne_m1 (by omega)
      rw [if_neg (by rw [c1]; exact cn), c1, idxN (by omega)] at K
      have x9 : Mx h9 b (ov a v6 c (noteR f i wh yy (nI n))) H P G n none := by
        refine ⟨y9, hb, b9, mid_ok ok (fun k hk => ?_) (fun p hp => ?_) (fun g _ => ?_), by rw [g9.fi n151]; exact il⟩
        · rw [noteR_lo hk]; exact f1 k hk
        · rw [note_pl]; exact f2 p hp
        · rw [noteR_hi i8 (by omega)]; exact f3 g
      simp (disch := first | with_reducible assumption | exact cat_int | exact cat_ref | exact cat_null | exact cat_ra | exact Nat.le_of_ble_eq_true rfl | (simp (disch := omega) only [hK_sI, hR_sI, hN_sI, hA_sI, hQ_sI, hL_sI, hn_sI, hK_sR, hI_sR, hN_sR, hA_sR, hQ_sR, hL_sR, hn_sR, hK_sA, hI_sA, hR_sA, hN_sA, hQ_sA, hL_sA, hn_sA, hK_sQ, hI_sQ, hR_sQ, hN_sQ, hA_sQ, hL_sQ, hn_sQ, hK_sL, hI_sL, hR_sL, hN_sL, hA_sL, hQ_sL, hn_sL, hK_cpA, hI_cpA, hR_cpA, hN_cpA, hQ_cpA, hL_cpA, hn_cpA, hK_bump, hI_bump, hR_bump, hN_bump, hA_bump, hQ_bump, hL_bump, hn_bump, hI_sI, hR_sR, hA_sA, hQ_sQ, hL_sL, hA_cpA, isS, cat_int, cat_ref, cat_null, cat_ra, wds_nil, wds_int, wds_ref, wds_long, wds_ra, nz5, nz7, nz2, idxN, inAN, if_true, if_false, b00, b11, b01, eq_self, true_or, or_true, false_or, or_false, true_and, and_true, false_and, and_false, not_true, not_false_eq_true, Y_k151 y9, Y_r119 y9, Y_k156 y9, Y_n156 y9, i8, w9, c1, cn]; done) | omega) only [iX7_go_152, iX7_go_153, iX7_go_156, iX7_go_158, iX7_go_159, iX7_go_160, iX7_go_163, iX7_go_164, iX7_go_165, iX7_go_166, iX7_go_169, iX7_go_171, iX7_go_172, iX7_go_174, ↓reduceIte, ofN, reduceCtorEq, Bool.false_eq_true, Nat.reduceAdd, Nat.reduceMul, Nat.reduceEqDiff, Nat.reduceLeDiff, Nat.reduceLT, le_nlt, ite_not, Nat.lt_irrefl, Decidable.not_not, kn1, kn0, knite, isS, getS, cat_int, cat_ref, cat_null, cat_ra, wds_nil, wds_int, wds_ref, wds_long, wds_ra, b0, b01, b00, b11, b10, if_true, if_false, ite_self, not_true, not_false_eq_true, true_or, or_true, false_or, or_false, true_and, and_true, false_and, and_false, eq_self, idxN, inAN, nI_add, nI_mul, nI_sub, nz5, nz7, nz2, nI_ltN, Nat.add_zero, Nat.zero_add, hK_sI, hR_sI, hN_sI, hA_sI, hQ_sI, hL_sI, hn_sI, hK_sR, hI_sR, hN_sR, hA_sR, hQ_sR, hL_sR, hn_sR, hK_sA, hI_sA, hR_sA, hN_sA, hQ_sA, hL_sA, hn_sA, hK_sQ, hI_sQ, hR_sQ, hN_sQ, hA_sQ, hL_sQ, hn_sQ, hK_sL, hI_sL, hR_sL, hN_sL, hA_sL, hQ_sL, hn_sL, hK_cpA, hI_cpA, hR_cpA, hN_cpA, hQ_cpA, hL_cpA, hn_cpA, hK_bump, hI_bump, hR_bump, hN_bump, hA_bump, hQ_bump, hL_bump, hn_bump, hI_sI, hR_sR, hA_sA, hQ_sQ, hL_sL, hA_cpA, Y_k151 y9, Y_r119 y9, Y_k156 y9, Y_n156 y9, i8, w9, c1, cn]
      refine Ev_call (d_pay x9 hg hi) ?_
      rintro _ ⟨h8, rfl, g8, b8⟩
      simp (disch := first | with_reducible assumption | exact cat_int | exact cat_ref | exact cat_null | exact cat_ra | exact Nat.le_of_ble_eq_true rfl | (simp (disch := omega) only [hK_sI, hR_sI, hN_sI, hA_sI, hQ_sI, hL_sI, hn_sI, hK_sR, hI_sR, hN_sR, hA_sR, hQ_sR, hL_sR, hn_sR, hK_sA, hI_sA, hR_sA, hN_sA, hQ_sA, hL_sA, hn_sA, hK_sQ, hI_sQ, hR_sQ, hN_sQ, hA_sQ, hL_sQ, hn_sQ, hK_sL, hI_sL, hR_sL, hN_sL, hA_sL, hQ_sL, hn_sL, hK_cpA, hI_cpA, hR_cpA, hN_cpA, hQ_cpA, hL_cpA, hn_cpA, hK_bump, hI_bump, hR_bump, hN_bump, hA_bump, hQ_bump, hL_bump, hn_bump, hI_sI, hR_sR, hA_sA, hQ_sQ, hL_sL, hA_cpA, isS, cat_int, cat_ref, cat_null, cat_ra, wds_nil, wds_int, wds_ref, wds_long, wds_ra, nz5, nz7, nz2, idxN, inAN, if_true, if_false, b00, b11, b01, eq_self, true_or, or_true, false_or, or_false, true_and, and_true, false_and, and_false, not_true, not_false_eq_true]; done) | omega) only [iX7_go_177, iX7_go_180, ↓reduceIte, ofN, reduceCtorEq, Bool.false_eq_true, Nat.reduceAdd, Nat.reduceMul, Nat.reduceEqDiff, Nat.reduceLeDiff, Nat.reduceLT, le_nlt, ite_not, Nat.lt_irrefl, Decidable.not_not, kn1, kn0, knite, isS, getS, cat_int, cat_ref, cat_null, cat_ra, wds_nil, wds_int, wds_ref, wds_long, wds_ra, b0, b01, b00, b11, b10, if_true, if_false, ite_self, not_true, not_false_eq_true, true_or, or_true, false_or, or_false, true_and, and_true, false_and, and_false, eq_self, idxN, inAN, nI_add, nI_mul, nI_sub, nz5, nz7, nz2, nI_ltN, Nat.add_zero, Nat.zero_add, hK_sI, hR_sI, hN_sI, hA_sI, hQ_sI, hL_sI, hn_sI, hK_sR, hI_sR, hN_sR, hA_sR, hQ_sR, hL_sR, hn_sR, hK_sA, hI_sA, hR_sA, hN_sA, hQ_sA, hL_sA, hn_sA, hK_sQ, hI_sQ, hR_sQ, hN_sQ, hA_sQ, hL_sQ, hn_sQ, hK_sL, hI_sL, hR_sL, hN_sL, hA_sL, hQ_sL, hn_sL, hK_cpA, hI_cpA, hR_cpA, hN_cpA, hQ_cpA, hL_cpA, hn_cpA, hK_bump, hI_bump, hR_bump, hN_bump, hA_bump, hQ_bump, hL_bump, hn_bump, hI_sI, hR_sR, hA_sA, hQ_sQ, hL_sL, hA_cpA]
      exact K _ (g9.tr g8) (by rw [b8, pay_ov i8, c1])
  by_cases cy : yy = nI 0
  · have bf : op.testBit i = false := by
      cases z : op.testBit i with
      | false => rfl
      | true => exact absurd cy (hoy.mp z)
    rw [bf] at bit
    have e01 : (nI (b2n false) = nI 1) = False := by decide
    simp (disch := first | with_reducible assumption | exact cat_int | exact cat_ref | exact cat_null | exact cat_ra | exact Nat.le_of_ble_eq_true rfl | (simp (disch := omega) only [hK_sI, hR_sI, hN_sI, hA_sI, hQ_sI, hL_sI, hn_sI, hK_sR, hI_sR, hN_sR, hA_sR, hQ_sR, hL_sR, hn_sR, hK_sA, hI_sA, hR_sA, hN_sA, hQ_sA, hL_sA, hn_sA, hK_sQ, hI_sQ, hR_sQ, hN_sQ, hA_sQ, hL_sQ, hn_sQ, hK_sL, hI_sL, hR_sL, hN_sL, hA_sL, hQ_sL, hn_sL, hK_cpA, hI_cpA, hR_cpA, hN_cpA, hQ_cpA, hL_cpA, hn_cpA, hK_bump, hI_bump, hR_bump, hN_bump, hA_bump, hQ_bump, hL_bump, hn_bump, hI_sI, hR_sR, hA_sA, hQ_sQ, hL_sL, hA_cpA, isS, cat_int, cat_ref, cat_null, cat_ra, wds_nil, wds_int, wds_ref, wds_long, wds_ra, nz5, nz7, nz2, idxN, inAN, if_true, if_false, b00, b11, b01, eq_self, true_or, or_true, false_or, or_false, true_and, and_true, false_and, and_false, not_true, not_false_eq_true, bit, e01]; done) | omega) only [iX7_go_118, iX7_go_119, iX7_go_121, iX7_go_122, iX7_go_123, iX7_go_124, iX7_go_125, iX7_go_128, iX7_go_129, iX7_go_131, iX7_go_132, iX7_go_133, iX7_go_135, iX7_go_136, iX7_go_139, iX7_go_140, iX7_go_141, iX7_go_144, iX7_go_145, iX7_go_147, iX7_go_148, iX7_go_149, ↓reduceIte, ofN, reduceCtorEq, Bool.false_eq_true, Nat.reduceAdd, Nat.reduceMul, Nat.reduceEqDiff, Nat.reduceLeDiff, Nat.reduceLT, le_nlt, ite_not, Nat.lt_irrefl, Decidable.not_not, kn1, kn0, knite, isS, getS, cat_int, cat_ref, cat_null, cat_ra, wds_nil, wds_int, wds_ref, wds_long, wds_ra, b0, b01, b00, b11, b10, if_true, if_false, ite_self, not_true, not_false_eq_true, true_or, or_true, false_or, or_false, true_and, and_true, false_and, and_false, eq_self, idxN, inAN, nI_add, nI_mul, nI_sub, nz5, nz7, nz2, nI_ltN, Nat.add_zero, Nat.zero_add, hK_sI, hR_sI, hN_sI, hA_sI, hQ_sI, hL_sI, hn_sI, hK_sR, hI_sR, hN_sR, hA_sR, hQ_sR, hL_sR, hn_sR, hK_sA, hI_sA, hR_sA, hN_sA, hQ_sA, hL_sA, hn_sA, hK_sQ, hI_sQ, hR_sQ, hN_sQ, hA_sQ, hL_sQ, hn_sQ, hK_sL, hI_sL, hR_sL, hN_sL, hA_sL, hQ_sL, hn_sL, hK_cpA, hI_cpA, hR_cpA, hN_cpA, hQ_cpA, hL_cpA, hn_cpA, hK_bump, hI_bump, hR_bump, hN_bump, hA_bump, hQ_bump, hL_bump, hn_bump, hI_sI, hR_sR, hA_sA, hQ_sQ, hL_sL, hA_cpA, bit, e01]
    refine key _ (Fr.wA (S := fun j => j = b) g2 rfl) ?_
    rw [hA_pu, ba2]
    exact go_put0 i8 cy
  · have bf : op.testBit i = true := hoy.mpr cy
    rw [bf] at bit
    have e01 : (nI (b2n true) = nI 1) = True := by decide
    simp (disch := first | with_reducible assumption | exact cat_int | exact cat_ref | exact cat_null | exact cat_ra | exact Nat.le_of_ble_eq_true rfl | (simp (disch := omega) only [hK_sI, hR_sI, hN_sI, hA_sI, hQ_sI, hL_sI, hn_sI, hK_sR, hI_sR, hN_sR, hA_sR, hQ_sR, hL_sR, hn_sR, hK_sA, hI_sA, hR_sA, hN_sA, hQ_sA, hL_sA, hn_sA, hK_sQ, hI_sQ, hR_sQ, hN_sQ, hA_sQ, hL_sQ, hn_sQ, hK_sL, hI_sL, hR_sL, hN_sL, hA_sL, hQ_sL, hn_sL, hK_cpA, hI_cpA, hR_cpA, hN_cpA, hQ_cpA, hL_cpA, hn_cpA, hK_bump, hI_bump, hR_bump, hN_bump, hA_bump, hQ_bump, hL_bump, hn_bump, hI_sI, hR_sR, hA_sA, hQ_sQ, hL_sL, hA_cpA, isS, cat_int, cat_ref, cat_null, cat_ra, wds_nil, wds_int, wds_ref, wds_long, wds_ra, nz5, nz7, nz2, idxN, inAN, if_true, if_false, b00, b11, b01, eq_self, true_or, or_true, false_or, or_false, true_and, and_true, false_and, and_false, not_true, not_false_eq_true, bit, e01, bk, bl, ba, i8, d_of2, d_put2, d_put4, eqF, M23]; done) | omega) only [iX7_go_118, iX7_go_119, iX7_go_121, iX7_go_122, iX7_go_123, iX7_go_124, iX7_go_125, iX7_go_128, iX7_go_129, iX7_go_131, iX7_go_132, iX7_go_133, iX7_go_135, iX7_go_136, iX7_go_139, iX7_go_140, iX7_go_141, iX7_go_144, iX7_go_145, iX7_go_147, iX7_go_148, iX7_go_149, ↓reduceIte, ofN, reduceCtorEq, Bool.false_eq_true, Nat.reduceAdd, Nat.reduceMul, Nat.reduceEqDiff, Nat.reduceLeDiff, Nat.reduceLT, le_nlt, ite_not, Nat.lt_irrefl, Decidable.not_not, kn1, kn0, knite, isS, getS, cat_int, cat_ref, cat_null, cat_ra, wds_nil, wds_int, wds_ref, wds_long, wds_ra, b0, b01, b00, b11, b10, if_true, if_false, ite_self, not_true, not_false_eq_true, true_or, or_true, false_or, or_false, true_and, and_true, false_and, and_false, eq_self, idxN, inAN, nI_add, nI_mul, nI_sub, nz5, nz7, nz2, nI_ltN, Nat.add_zero, Nat.zero_add, hK_sI, hR_sI, hN_sI, hA_sI, hQ_sI, hL_sI, hn_sI, hK_sR, hI_sR, hN_sR, hA_sR, hQ_sR, hL_sR, hn_sR, hK_sA, hI_sA, hR_sA, hN_sA, hQ_sA, hL_sA, hn_sA, hK_sQ, hI_sQ, hR_sQ, hN_sQ, hA_sQ, hL_sQ, hn_sQ, hK_sL, hI_sL, hR_sL, hN_sL, hA_sL, hQ_sL, hn_sL, hK_cpA, hI_cpA, hR_cpA, hN_cpA, hQ_cpA, hL_cpA, hn_cpA, hK_bump, hI_bump, hR_bump, hN_bump, hA_bump, hQ_bump, hL_bump, hn_bump, hI_sI, hR_sR, hA_sA, hQ_sQ, hL_sL, hA_cpA, bit, e01, bk, bl, ba, i8, d_of2, d_put2, d_put4, eqF, M23]
    refine key _ (Fr.wA (S := fun j => j = b) (Fr.wA (S := fun j => j = b) (Fr.wA (S := fun j => j = b) g2 rfl) rfl) rfl) ?_
    rw [hA_pu, hA_pu, hA_pu, ba2]
    exact go_put1 i8 cy
end
