/-! THE MODEL: pay, go, passNow -/
theorem eqF {x y : Nat} (h : ¬ x = y) : (x = y) = False := eq_false h
theorem hA_pu {h : AH} {b j : Nat} {v : Int32} : hA (sA h b j v) b = pu (hA h b) j v := by
  funext k
  rw [hA_sA]
  unfold pu
  by_cases c : k = j
  · rw [if_pos ⟨rfl, c⟩, if_pos c]
  · rw [if_neg (fun z => c z.2), if_neg c]
theorem hA_ne {h : AH} {a b j : Nat} {v : Int32} (hab : ¬ a = b) : hA (sA h b j v) a = hA h a := by
  funext k
  rw [hA_sA, if_neg (fun z => hab z.1)]
def ov (a b c : Int32) (f : Rw) : Rw := fun k => if k = 5 then a else if k = 6 then b else if k = 7 then c else f k
section
variable {a b c v w y se : Int32} {f r : Rw} {p g n H P G i : Nat}
theorem note_ov (hp : p < 8) : noteR (ov a b c f) p w y se = ov a b c (noteR f p w y se) := by
  funext k
  by_cases h5 : k = 5
  · subst h5; rw [noteR_lo (by omega)]; rfl
  by_cases h6 : k = 6
  · subst h6; rw [noteR_lo (by omega)]; rfl
  by_cases h7 : k = 7
  · subst h7; rw [noteR_lo (by omega)]; rfl
  have e1 : ∀ j, 21 ≤ j → ov a b c f j = f j := fun j hj => by unfold ov; rw [if_neg (by omega), if_neg (by omega), if_neg (by omega)]
  have e2 : ov a b c (noteR f p w y se) k = noteR f p w y se k := by show (if k = 5 then _ else _) = _; rw [if_neg h5, if_neg h6, if_neg h7]
  have e3 : ov a b c f k = f k := by show (if k = 5 then _ else _) = _; rw [if_neg h5, if_neg h6, if_neg h7]
  rw [e2]
  unfold noteR
  rw [e1 (23 + 9 * p) (by omega), e3]
theorem pay_ov (hp : p < 8) : payR (ov a b c f) g p = ov a b c (payR f g p) := by
  funext k
  have e1 : ∀ j, 21 ≤ j → ov a b c f j = f j := fun j hj => by unfold ov; rw [if_neg (by omega), if_neg (by omega), if_neg (by omega)]
  by_cases hk : k < 93
  · rw [payR_lo hk]
    unfold ov
    rw [payR_lo hk]
  · have e2 : ov a b c (payR f g p) k = payR f g p k := by unfold ov; rw [if_neg (by omega), if_neg (by omega), if_neg (by omega)]
    rw [e2]
    unfold payR
    rw [e1 (21 + 9 * p) (by omega), e1 k (by omega)]
    have e4 : (fun f9 => ov a b c f (93 + 9 * g + f9)) = fun f9 => f (93 + 9 * g + f9) := by funext j; exact e1 _ (by omega)
    rw [e4]
theorem go_put0 (hp : p < 8) (hy : y = nI 0) : pu (pu (pu (ov a b c f) (28 + 9 * p) w) (29 + 9 * p) y) 6 v = ov a v c (noteR f p w y se) := by
  funext k
  unfold pu noteR ov
  simp only [hy, not_true, and_false, if_false]
  repeat' split
  all_goals first
    | rfl
    | (exfalso; omega)
theorem go_put1 (hp : p < 8) (hy : ¬ y = nI 0) : pu (pu (pu (pu (pu (ov a b c f) (28 + 9 * p) w) (29 + 9 * p) y) 6 v) (23 + 9 * p) (f (23 + 9 * p) + nI 1)) (25 + 9 * p) se = ov a v c (noteR f p w y se) := by
  funext k
  unfold pu noteR ov
  simp only [hy, not_false_eq_true, and_true]
  repeat' split
  all_goals first
    | rfl
    | (exfalso; omega)
theorem popc_msk {q : Nat → Bool} (hi : i < 8) : popc (msk q (i + 1)) = popc (msk q i) + b2n (q i) := by
  have : i = 0 ∨ i = 1 ∨ i = 2 ∨ i = 3 ∨ i = 4 ∨ i = 5 ∨ i = 6 ∨ i = 7 := by omega
  rcases this with e | e | e | e | e | e | e | e <;> subst e <;> simp only [popc, msk_bit, Nat.reduceLT, Nat.reduceAdd, decide_true, decide_false, Bool.true_and, Bool.false_and, Nat.lt_irrefl, Nat.not_lt_zero] <;> simp only [b2n, Bool.false_eq_true, if_false] <;> omega
end
section
variable {L : Nat} {xs : Nat → Int32} {h h2 : AH} {b H P G n : Nat} {r : Rw} {o : Option Nat} {s : LK} {W nd : Nat → Bool}
theorem pay_fun {g p : Nat} {e5 v7 v8 v4 v3 : Int32} {F : Rw} (h5 : F (98 + 9 * g) = r (98 + 9 * g) + (nI 10 + nI 2 * r (96 + 9 * g) + (if r (95 + 9 * g) = nI p then nI 0 else dst (r (93 + 9 * g)) (r (21 + 9 * p)) / nI 5)))
    (h7 : F (100 + 9 * g) = if r (95 + 9 * g) = nI p then r (100 + 9 * g) + nI 1 else r (100 + 9 * g))
    (h8 : F (101 + 9 * g) = if r (95 + 9 * g) = nI p then r (101 + 9 * g) else r (101 + 9 * g) + nI 1)
    (h4 : F (97 + 9 * g) = if r (97 + 9 * g) + nI 1 = nI 20 then nI 0 else r (97 + 9 * g) + nI 1)
    (h3 : F (96 + 9 * g) = if r (97 + 9 * g) + nI 1 = nI 20 then (if r (96 + 9 * g) = nI 5 then nI 5 else r (96 + 9 * g) + nI 1) else r (96 + 9 * g))
    (hz : ∀ k, ¬ k = 98 + 9 * g → ¬ k = 100 + 9 * g → ¬ k = 101 + 9 * g → ¬ k = 97 + 9 * g → ¬ k = 96 + 9 * g → F k = r k) : F = payR r g p := by
  funext k
  unfold payR
  by_cases hk : 93 + 9 * g ≤ k ∧ k < 102 + 9 * g
  · rw [if_pos hk]
    obtain ⟨j, rfl⟩ : ∃ j, k = 93 + 9 * g + j := ⟨k - (93 + 9 * g), by omega⟩
    rw [show 93 + 9 * g + j - (93 + 9 * g) = j by omega]
    have hj : j < 9 := by omega
    have w : ∀ c, 93 + c + 9 * g = 93 + 9 * g + c := fun c => by omega
    have w3 := w 3
    have w4 := w 4
    have w5 := w 5
    have w7 := w 7
    have w8 := w 8
    have w2 := w 2
    simp only [Nat.reduceAdd] at w2 w3 w4 w5 w7 w8
    rw [w5, w3, w2] at h5
    rw [w7, w2] at h7
    rw [w8, w2] at h8
    rw [w4] at h4
    rw [w3, w4] at h3
    have cm : (nI p = r (93 + 9 * g + 2)) = (r (93 + 9 * g + 2) = nI p) := by rw [eq_iff_iff]; exact ⟨fun z => z.symm, fun z => z.symm⟩
    clear hk
    revert j
    refine lt9 ?_ ?_ ?_ ?_ ?_ ?_ ?_ ?_ ?_ <;> simp only [gSt, Nat.reduceEqDiff, if_false, if_true, cm]
    · exact hz _ (by omega) (by omega) (by omega) (by omega) (by omega)
    · exact hz _ (by omega) (by omega) (by omega) (by omega) (by omega)
    · exact hz _ (by omega) (by omega) (by omega) (by omega) (by omega)
    · exact h3
    · exact h4
    · exact h5
    · exact hz _ (by omega) (by omega) (by omega) (by omega) (by omega)
    · exact h7
    · exact h8
  · rw [if_neg hk]
    exact hz k (by omega) (by omega) (by omega) (by omega) (by omega)
theorem d_pay {g p : Nat} (x : Mx h b r H P G n o) (hg : g < G) (hp : p < P) : Ev (ev L xs mdX7_pay 0 [.ref 151, .ref b, .int (nI g), .int (nI p), .null, .null, .null] [] h) (fun z => ∃ h', z = .inl (none, h') ∧ Fr (fun i => i = b) h h' ∧ hA h' b = payR r g p) := by
  have G10 := x.G10
  have P8 := x.P8
  have g10 : g < 10 := by omega
  have p8 : p < 8 := by omega
  have bk := x.k
  have bl := x.le
  have ba := x.a
  have dd := d_dist (L := L) (xs := xs) x hg hp
  unfold dsR at dd
  have q1 : nI 10 + nI 2 * nI 5 + nI 0 = nI 20 := by decide
  have q2 : nI 10 + nI 2 * nI 5 = nI 20 := by decide
  by_cases c : r (95 + 9 * g) = nI p <;> by_cases d : r (97 + 9 * g) + nI 1 = nI 20 <;> by_cases e : r (96 + 9 * g) = nI 5 <;>
    (simp (disch := first | with_reducible assumption | exact cat_int | exact cat_ref | exact cat_null | exact cat_ra | exact Nat.le_of_ble_eq_true rfl | (simp (disch := omega) only [hK_sI, hR_sI, hN_sI, hA_sI, hQ_sI, hL_sI, hn_sI, hK_sR, hI_sR, hN_sR, hA_sR, hQ_sR, hL_sR, hn_sR, hK_sA, hI_sA, hR_sA, hN_sA, hQ_sA, hL_sA, hn_sA, hK_sQ, hI_sQ, hR_sQ, hN_sQ, hA_sQ, hL_sQ, hn_sQ, hK_sL, hI_sL, hR_sL, hN_sL, hA_sL, hQ_sL, hn_sL, hK_cpA, hI_cpA, hR_cpA, hN_cpA, hQ_cpA, hL_cpA, hn_cpA, hK_bump, hI_bump, hR_bump, hN_bump, hA_bump, hQ_bump, hL_bump, hn_bump, hI_sI, hR_sR, hA_sA, hQ_sQ, hL_sL, hA_cpA, isS, cat_int, cat_ref, cat_null, cat_ra, wds_nil, wds_int, wds_ref, wds_long, wds_ra, nz5, nz7, nz2, idxN, inAN, if_true, if_false, b00, b11, b01, eq_self, true_or, or_true, false_or, or_false, true_and, and_true, false_and, and_false, not_true, not_false_eq_true, bk, bl, ba, g10, d_by2, d_by3, d_by4, d_by5, d_by7, d_by8, d_give3, d_give4, d_give5, d_give7, d_give8, dd, c, d, e, eqF, Ev_some]; done) | omega) only [iX7_pay_0, iX7_pay_1, iX7_pay_2, iX7_pay_3, iX7_pay_6, iX7_pay_7, iX7_pay_10, iX7_pay_11, iX7_pay_14, iX7_pay_15, iX7_pay_17, iX7_pay_19, iX7_pay_20, iX7_pay_21, iX7_pay_22, iX7_pay_23, iX7_pay_26, iX7_pay_27, iX7_pay_28, iX7_pay_30, iX7_pay_33, iX7_pay_34, iX7_pay_37, iX7_pay_38, iX7_pay_39, iX7_pay_40, iX7_pay_43, iX7_pay_44, iX7_pay_45, iX7_pay_46, iX7_pay_48, iX7_pay_49, iX7_pay_50, iX7_pay_51, iX7_pay_52, iX7_pay_53, iX7_pay_54, iX7_pay_57, iX7_pay_59, iX7_pay_60, iX7_pay_63, iX7_pay_65, iX7_pay_68, iX7_pay_70, iX7_pay_73, iX7_pay_75, iX7_pay_77, iX7_pay_78, iX7_pay_79, iX7_pay_81, iX7_pay_82, iX7_pay_83, iX7_pay_85, iX7_pay_88, iX7_pay_89, iX7_pay_90, iX7_pay_93, iX7_pay_94, iX7_pay_95, iX7_pay_96, iX7_pay_97, iX7_pay_98, iX7_pay_99, iX7_pay_102, iX7_pay_103, iX7_pay_104, iX7_pay_107, iX7_pay_108, iX7_pay_109, iX7_pay_110, iX7_pay_113, iX7_pay_115, iX7_pay_118, iX7_pay_119, iX7_pay_120, iX7_pay_121, iX7_pay_122, iX7_pay_125, iX7_pay_126, iX7_pay_127, iX7_pay_128, iX7_pay_129, iX7_pay_130, iX7_pay_131, iX7_pay_134, iX7_pay_135, iX7_pay_138, iX7_pay_139, iX7_pay_142, iX7_pay_143, iX7_pay_144, iX7_pay_145, iX7_pay_148, iX7_pay_149, iX7_pay_150, iX7_pay_153, ↓reduceIte, ofN, reduceCtorEq, Bool.false_eq_true, Nat.reduceAdd, Nat.reduceMul, Nat.reduceEqDiff, Nat.reduceLeDiff, Nat.reduceLT, le_nlt, ite_not, Nat.lt_irrefl, Decidable.not_not, kn1, kn0, knite, isS, getS, cat_int, cat_ref, cat_null, cat_ra, wds_nil, wds_int, wds_ref, wds_long, wds_ra, b0, b01, b00, b11, b10, if_true, if_false, ite_self, not_true, not_false_eq_true, true_or, or_true, false_or, or_false, true_and, and_true, false_and, and_false, eq_self, idxN, inAN, nI_add, nI_mul, nI_sub, nz5, nz7, nz2, nI_ltN, Nat.add_zero, Nat.zero_add, hK_sI, hR_sI, hN_sI, hA_sI, hQ_sI, hL_sI, hn_sI, hK_sR, hI_sR, hN_sR, hA_sR, hQ_sR, hL_sR, hn_sR, hK_sA, hI_sA, hR_sA, hN_sA, hQ_sA, hL_sA, hn_sA, hK_sQ, hI_sQ, hR_sQ, hN_sQ, hA_sQ, hL_sQ, hn_sQ, hK_sL, hI_sL, hR_sL, hN_sL, hA_sL, hQ_sL, hn_sL, hK_cpA, hI_cpA, hR_cpA, hN_cpA, hQ_cpA, hL_cpA, hn_cpA, hK_bump, hI_bump, hR_bump, hN_bump, hA_bump, hQ_bump, hL_bump, hn_bump, hI_sI, hR_sR, hA_sA, hQ_sQ, hL_sL, hA_cpA, bk, bl, ba, g10, d_by2, d_by3, d_by4, d_by5, d_by7, d_by8, d_give3, d_give4, d_give5, d_give7, d_give8, dd, c, d, e, eqF, Ev_some]
     refine ⟨_, rfl, (by (repeat' (first | (with_reducible refine Fr.wI ?_ ?_) | (with_reducible refine Fr.wA ?_ ?_) | (with_reducible refine Fr.wC ?_ ?_))); all_goals first | (with_reducible exact Fr.rfl) | rfl | (show _ ∧ _; omega)), ?_⟩
     refine pay_fun (e5 := 0) (v7 := 0) (v8 := 0) (v4 := 0) (v3 := 0) ?_ ?_ ?_ ?_ ?_ (fun k k1 k2 k3 k4 k5 => ?_)
     · simp (disch := omega) [hA_sA, ba, c, d, e, eqF, q2, nI_0]
     · simp (disch := omega) [hA_sA, ba, c, d, e, eqF, q2, nI_0]
     · simp (disch := omega) [hA_sA, ba, c, d, e, eqF, q2, nI_0]
     · simp (disch := omega) [hA_sA, ba, c, d, e, eqF, q2, nI_0]
     · simp (disch := omega) [hA_sA, ba, c, d, e, eqF, q2, nI_0]
     · simp [hA_sA, ba, k1, k2, k3, k4, k5])
end
