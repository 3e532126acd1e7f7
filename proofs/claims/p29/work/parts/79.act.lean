/-! act: one act of the script -/
def inM (i : Nat) : Prop := 151 ≤ i
def sh (v : Int32) (k : Nat) : Int32 := v >>> (nI k &&& nI 31)
/-- the latest complaints, as the law notes them -/
def CJ (r : Rw) (P : Nat) (la : Nat → Int32) : Prop := (∀ p, p < P → r (27 + 9 * p) ≤ la p) ∧ ∀ p, -1 ≤ la p
def Bd (s : SvT) (la : Nat → Int32) (N : Nat) : Prop := J s.1 s.2.1 s.2.2.1 s.2.2.2.1 s.2.2.2.2 ∧ CJ s.1 s.2.2.1 la ∧ 3 ≤ s.2.2.1 ∧ s.2.2.1 ≤ 6 ∧ 2 ≤ s.2.2.2.1 ∧ s.2.2.2.1 ≤ 8 ∧ s.2.2.2.2 ≤ N
def ActQ (h : AH) (s : SvT) (m : Nat) (sv : Nat → SvT) (la : Nat → Int32) (o : Option (SvT × (Nat → Int32))) (z : Res) : Prop := ∃ h', z = .inl (none, h') ∧ hc h' = hc h ∧ hs h' = hs h ∧ match o with
  | none => CR h' s m sv rZ 0 ∧ hA h' 151 = la
  | some q => CR h' q.1 (pushN m) (push m sv s) rZ 0 ∧ hA h' 151 = q.2
def ActP (L : Nat) (xs : Nat → Int32) (v : Int32) (s : SvT) (la : Nat → Int32) (o : Option (SvT × (Nat → Int32))) : Prop := ∀ h m sv, CR h s m sv rZ 0 → hA h 151 = la → Ev (ev L xs mdL_act 0 [.ref 0, .int v, .ref 151, .null, .null, .null, .null, .null, .null, .null] [] h) (ActQ h s m sv la o)
def ActE (L : Nat) (xs : Nat → Int32) (v : Int32) (s : SvT) (la : Nat → Int32) (N : Nat) : Prop := ∃ o, (∀ q, o = some q → Bd q.1 q.2 (N + 24) ∧ ∀ j, ¬ j = lw (sh v 4) s.2.2.1 → q.2 j = la j) ∧ ActP L xs v s la o
section
variable {L : Nat} {xs : Nat → Int32} {h h1 h2 h3 : AH} {m len : Nat} {sv : Nat → SvT} {tx : Rw} {r r' : Rw} {H P G n N : Nat} {s : SvT} {la : Nat → Int32} {v : Int32}
theorem CR.frM (c : CR h s m sv tx len) (f : Fr inM h h2) : CR h2 s m sv tx len := by
  have k0 := Y_k0 c.y
  have z : ∀ i, i < 151 → ¬ inM i := fun i hi hm => by unfold inM at hm; omega
  obtain ⟨c1, c2, c3, c4, c5, ⟨g, c6, c7⟩, c8, c9, c10⟩ := c
  refine ⟨f.y c1, fun b hb => f.st (c2 b hb), Rl.fr c3 f (fun i h1 h2 => z i (by omega)), c4, by rw [f.fi (z 0 (by omega))]; exact c5, ⟨g, ⟨fun j hj => by rw [f.qq]; exact c6.1 j hj, c6.2⟩, fun j hj => Rl.fr (c7 j hj) f (fun i h1 h2 => z i ?_)⟩, ?_, by rw [f.fi (z 54 (by omega))]; exact c9, c10⟩
  · have v := (c6.1 j (by omega)).2
    unfold isVb at v
    omega
  · rw [← c8]; funext j; exact f.ar (z 55 (by omega))
theorem and15 (v : Int32) : ∃ q, q < 16 ∧ v &&& nI 15 = nI q := by
  have e0 : (nI 15).toBitVec.toNat = 15 := by decide
  have e1 : (v &&& nI 15).toBitVec.toNat ≤ 15 := by
    rw [Int32.toBitVec_and, BitVec.toNat_and, e0]
    exact Nat.and_le_right
  refine ⟨(v &&& nI 15).toBitVec.toNat, by omega, ?_⟩
  apply Int32.toBitVec_inj.mp
  apply BitVec.eq_of_toNat_eq
  generalize (v &&& nI 15).toBitVec.toNat = m at *
  show m = (BitVec.ofNat 32 m).toNat
  rw [BitVec.toNat_ofNat]
  omega
theorem le_nI {a b : Nat} (ha : a ≤ b) (hb : b < 2 ^ 31) : nI a ≤ nI b := by
  rw [nI_leN (by omega) hb]
  exact ha
theorem act_pre (c : CR h (r, H, P, G, n) m sv tx len) (hP : 3 ≤ P) (hP6 : P ≤ 6) (hG : 2 ≤ G) (hG8 : G ≤ 8) (hn9 : n < 5000) : ev L xs mdL_act 0 [.ref 0, .int v, .ref 151, .null, .null, .null, .null, .null, .null, .null] [] h = ev L xs mdL_act 51 [.ref 0, .int v, .ref 151, .int (nI G), .int (nI P), .int (nI n), .int (nI (lw (sh v 4) P)), .int (nI (lw (sh v 4) G)), .null, .null] [.int (v &&& nI 15)] h := by
  have k0 := Y_k0 c.y
  have en : 2 * (n / 2) + n % 2 = n := by omega
  have l1 := fun (h9 : AH) => s_low (L := L) (xs := xs) (h := h9) (v := sh v 4) (k := P) (by omega) (by omega)
  have l2 := fun (h9 : AH) => s_low (L := L) (xs := xs) (h := h9) (v := sh v 4) (k := G) (by omega) (by omega)
  unfold sh at *
  simp (disch := first | with_reducible assumption | exact cat_int | exact cat_ref | exact cat_null | exact cat_ra | exact Nat.le_of_ble_eq_true rfl | (simp (disch := omega) only [hK_sI, hR_sI, hN_sI, hA_sI, hQ_sI, hL_sI, hn_sI, hK_sR, hI_sR, hN_sR, hA_sR, hQ_sR, hL_sR, hn_sR, hK_sA, hI_sA, hR_sA, hN_sA, hQ_sA, hL_sA, hn_sA, hK_sQ, hI_sQ, hR_sQ, hN_sQ, hA_sQ, hL_sQ, hn_sQ, hK_sL, hI_sL, hR_sL, hN_sL, hA_sL, hQ_sL, hn_sL, hK_cpA, hI_cpA, hR_cpA, hN_cpA, hQ_cpA, hL_cpA, hn_cpA, hK_bump, hI_bump, hR_bump, hN_bump, hA_bump, hQ_bump, hL_bump, hn_bump, hI_sI, hR_sR, hA_sA, hQ_sQ, hL_sL, hA_cpA, isS, cat_int, cat_ref, cat_null, cat_ra, wds_nil, wds_int, wds_ref, wds_long, wds_ra, nz5, nz7, nz2, idxN, inAN, if_true, if_false, b00, b11, b01, eq_self, true_or, or_true, false_or, or_false, true_and, and_true, false_and, and_false, not_true, not_false_eq_true, a_v1 c, a_v2 c, a_v3 c, a_v4 c, en, l1, l2]; done) | omega) only [iL_act_0, iL_act_1, iL_act_2, iL_act_5, iL_act_6, iL_act_7, iL_act_8, iL_act_11, iL_act_13, iL_act_14, iL_act_15, iL_act_16, iL_act_19, iL_act_20, iL_act_21, iL_act_22, iL_act_25, iL_act_26, iL_act_28, iL_act_29, iL_act_30, iL_act_31, iL_act_33, iL_act_36, iL_act_38, iL_act_39, iL_act_40, iL_act_41, iL_act_42, iL_act_45, iL_act_47, iL_act_48, iL_act_50, ↓reduceIte, ofN, reduceCtorEq, Bool.false_eq_true, Nat.reduceAdd, Nat.reduceMul, Nat.reduceEqDiff, Nat.reduceLeDiff, Nat.reduceLT, le_nlt, ite_not, Nat.lt_irrefl, Decidable.not_not, kn1, kn0, knite, isS, getS, cat_int, cat_ref, cat_null, cat_ra, wds_nil, wds_int, wds_ref, wds_long, wds_ra, b0, b01, b00, b11, b10, if_true, if_false, ite_self, not_true, not_false_eq_true, true_or, or_true, false_or, or_false, true_and, and_true, false_and, and_false, eq_self, idxN, inAN, nI_add, nI_mul, nI_sub, nz5, nz7, nz2, nI_ltN, Nat.add_zero, Nat.zero_add, hK_sI, hR_sI, hN_sI, hA_sI, hQ_sI, hL_sI, hn_sI, hK_sR, hI_sR, hN_sR, hA_sR, hQ_sR, hL_sR, hn_sR, hK_sA, hI_sA, hR_sA, hN_sA, hQ_sA, hL_sA, hn_sA, hK_sQ, hI_sQ, hR_sQ, hN_sQ, hA_sQ, hL_sQ, hn_sQ, hK_sL, hI_sL, hR_sL, hN_sL, hA_sL, hQ_sL, hn_sL, hK_cpA, hI_cpA, hR_cpA, hN_cpA, hQ_cpA, hL_cpA, hn_cpA, hK_bump, hI_bump, hR_bump, hN_bump, hA_bump, hQ_bump, hL_bump, hn_bump, hI_sI, hR_sR, hA_sA, hQ_sQ, hL_sL, hA_cpA, a_v1 c, a_v2 c, a_v3 c, a_v4 c, en, l1, l2]
theorem CJ.to (x : CJ r P la) (e : ∀ p, p < P → r' (27 + 9 * p) = r (27 + 9 * p)) : CJ r' P la := ⟨fun p hp => by rw [e p hp]; exact x.1 p hp, x.2⟩
theorem a_0 (b : Bd (r, H, P, G, n) la N) (hN : N < 4000) (e : v &&& nI 15 = nI 0) : ActE L xs v (r, H, P, G, n) la N := by
  obtain ⟨j, cj, b1, b2, b3, b4, b5⟩ := b
  change J r H P G n at j
  change CJ r P la at cj
  change 3 ≤ P at b1
  change P ≤ 6 at b2
  change 2 ≤ G at b3
  change G ≤ 8 at b4
  change n ≤ N at b5
  by_cases p6 : P < 6
  · have x9 := lw_lt (v := sh v 4) (k := 100) (by omega)
    have y9 := lw_lt (v := sh v 11) (k := 1024) (by omega)
    refine ⟨some ((postR r P (nI (lw (sh v 4) 100)) (nI (lw (sh v 11) 1024)), H, P + 1, G, n), la), fun q hq => ?_, fun h m sv c hla => ?_⟩
    · cases hq
      refine ⟨⟨J_post j (by omega) ⟨_, by omega, rfl⟩, ⟨fun p hp => ?_, cj.2⟩, by show 3 ≤ P + 1; omega, by show P + 1 ≤ 6; omega, b3, b4, by show n ≤ N + 24; omega⟩, fun _ _ => rfl⟩
      show postR r P _ _ (27 + 9 * p) ≤ la p
      by_cases z : p = P
      · have : postR r P (nI (lw (sh v 4) 100)) (nI (lw (sh v 11) 1024)) (27 + 9 * p) = -1 := by
          unfold postR
          rw [if_pos ⟨by omega, by omega⟩, show 27 + 9 * p - (21 + 9 * P) = 6 by omega]
          rfl
        rw [this]
        exact cj.2 p
      · have hp : p < P + 1 := hp
        have : postR r P (nI (lw (sh v 4) 100)) (nI (lw (sh v 11) 1024)) (27 + 9 * p) = r (27 + 9 * p) := by
          unfold postR
          rw [if_neg (by omega), if_neg (by omega)]
        rw [this]
        exact cj.1 p (by omega)
    · have k0 := Y_k0 c.y
      rw [act_pre c b1 b2 b3 b4 (by omega), e, iL_act_51_0]
      have l1 := fun (h9 : AH) => s_low (L := L) (xs := xs) (h := h9) (v := sh v 4) (k := 100) (by omega) (by omega)
      have l2 := fun (h9 : AH) => s_low (L := L) (xs := xs) (h := h9) (v := sh v 11) (k := 1024) (by omega) (by omega)
      have cl := a_addPost0 (L := L) (xs := xs) c (x := nI (lw (sh v 4) 100)) (y := nI (lw (sh v 11) 1024)) ⟨⟨le_nI (by omega) (by omega), le_nI (by omega) (by omega)⟩, le_nI (by omega) (by omega), le_nI (by omega) (by omega)⟩ (by omega)
      unfold sh at l1 l2 ⊢
      unfold sh at cl
      simp (disch := first | with_reducible assumption | exact cat_int | exact cat_ref | exact cat_null | exact cat_ra | exact Nat.le_of_ble_eq_true rfl | (simp (disch := omega) only [hK_sI, hR_sI, hN_sI, hA_sI, hQ_sI, hL_sI, hn_sI, hK_sR, hI_sR, hN_sR, hA_sR, hQ_sR, hL_sR, hn_sR, hK_sA, hI_sA, hR_sA, hN_sA, hQ_sA, hL_sA, hn_sA, hK_sQ, hI_sQ, hR_sQ, hN_sQ, hA_sQ, hL_sQ, hn_sQ, hK_sL, hI_sL, hR_sL, hN_sL, hA_sL, hQ_sL, hn_sL, hK_cpA, hI_cpA, hR_cpA, hN_cpA, hQ_cpA, hL_cpA, hn_cpA, hK_bump, hI_bump, hR_bump, hN_bump, hA_bump, hQ_bump, hL_bump, hn_bump, hI_sI, hR_sR, hA_sA, hQ_sQ, hL_sL, hA_cpA, isS, cat_int, cat_ref, cat_null, cat_ra, wds_nil, wds_int, wds_ref, wds_long, wds_ra, nz5, nz7, nz2, idxN, inAN, if_true, if_false, b00, b11, b01, eq_self, true_or, or_true, false_or, or_false, true_and, and_true, false_and, and_false, not_true, not_false_eq_true, p6, l1, l2]; done) | omega) only [iL_act_116, iL_act_118, iL_act_120, iL_act_123, iL_act_124, iL_act_125, iL_act_126, iL_act_127, iL_act_129, iL_act_132, iL_act_133, iL_act_135, iL_act_136, iL_act_139, iL_act_142, ↓reduceIte, ofN, reduceCtorEq, Bool.false_eq_true, Nat.reduceAdd, Nat.reduceMul, Nat.reduceEqDiff, Nat.reduceLeDiff, Nat.reduceLT, le_nlt, ite_not, Nat.lt_irrefl, Decidable.not_not, kn1, kn0, knite, isS, getS, cat_int, cat_ref, cat_null, cat_ra, wds_nil, wds_int, wds_ref, wds_long, wds_ra, b0, b01, b00, b11, b10, if_true, if_false, ite_self, not_true, not_false_eq_true, true_or, or_true, false_or, or_false, true_and, and_true, false_and, and_false, eq_self, idxN, inAN, nI_add, nI_mul, nI_sub, nz5, nz7, nz2, nI_ltN, Nat.add_zero, Nat.zero_add, hK_sI, hR_sI, hN_sI, hA_sI, hQ_sI, hL_sI, hn_sI, hK_sR, hI_sR, hN_sR, hA_sR, hQ_sR, hL_sR, hn_sR, hK_sA, hI_sA, hR_sA, hN_sA, hQ_sA, hL_sA, hn_sA, hK_sQ, hI_sQ, hR_sQ, hN_sQ, hA_sQ, hL_sQ, hn_sQ, hK_sL, hI_sL, hR_sL, hN_sL, hA_sL, hQ_sL, hn_sL, hK_cpA, hI_cpA, hR_cpA, hN_cpA, hQ_cpA, hL_cpA, hn_cpA, hK_bump, hI_bump, hR_bump, hN_bump, hA_bump, hQ_bump, hL_bump, hn_bump, hI_sI, hR_sR, hA_sA, hQ_sQ, hL_sL, hA_cpA, p6, l1, l2]
      refine Ev_call cl ?_
      rintro _ ⟨h1, rfl, f1, hc1, hs1, c1⟩
      have kc1 := Y_k0 c1.y
      simp (disch := first | with_reducible assumption | exact cat_int | exact cat_ref | exact cat_null | exact cat_ra | exact Nat.le_of_ble_eq_true rfl | (simp (disch := omega) only [hK_sI, hR_sI, hN_sI, hA_sI, hQ_sI, hL_sI, hn_sI, hK_sR, hI_sR, hN_sR, hA_sR, hQ_sR, hL_sR, hn_sR, hK_sA, hI_sA, hR_sA, hN_sA, hQ_sA, hL_sA, hn_sA, hK_sQ, hI_sQ, hR_sQ, hN_sQ, hA_sQ, hL_sQ, hn_sQ, hK_sL, hI_sL, hR_sL, hN_sL, hA_sL, hQ_sL, hn_sL, hK_cpA, hI_cpA, hR_cpA, hN_cpA, hQ_cpA, hL_cpA, hn_cpA, hK_bump, hI_bump, hR_bump, hN_bump, hA_bump, hQ_bump, hL_bump, hn_bump, hI_sI, hR_sR, hA_sA, hQ_sQ, hL_sL, hA_cpA, isS, cat_int, cat_ref, cat_null, cat_ra, wds_nil, wds_int, wds_ref, wds_long, wds_ra, nz5, nz7, nz2, idxN, inAN, if_true, if_false, b00, b11, b01, eq_self, true_or, or_true, false_or, or_false, true_and, and_true, false_and, and_false, not_true, not_false_eq_true, Ev_some]; done) | omega) only [iL_act_145, iL_act_146, iL_act_395, ↓reduceIte, ofN, reduceCtorEq, Bool.false_eq_true, Nat.reduceAdd, Nat.reduceMul, Nat.reduceEqDiff, Nat.reduceLeDiff, Nat.reduceLT, le_nlt, ite_not, Nat.lt_irrefl, Decidable.not_not, kn1, kn0, knite, isS, getS, cat_int, cat_ref, cat_null, cat_ra, wds_nil, wds_int, wds_ref, wds_long, wds_ra, b0, b01, b00, b11, b10, if_true, if_false, ite_self, not_true, not_false_eq_true, true_or, or_true, false_or, or_false, true_and, and_true, false_and, and_false, eq_self, idxN, inAN, nI_add, nI_mul, nI_sub, nz5, nz7, nz2, nI_ltN, Nat.add_zero, Nat.zero_add, hK_sI, hR_sI, hN_sI, hA_sI, hQ_sI, hL_sI, hn_sI, hK_sR, hI_sR, hN_sR, hA_sR, hQ_sR, hL_sR, hn_sR, hK_sA, hI_sA, hR_sA, hN_sA, hQ_sA, hL_sA, hn_sA, hK_sQ, hI_sQ, hR_sQ, hN_sQ, hA_sQ, hL_sQ, hn_sQ, hK_sL, hI_sL, hR_sL, hN_sL, hA_sL, hQ_sL, hn_sL, hK_cpA, hI_cpA, hR_cpA, hN_cpA, hQ_cpA, hL_cpA, hn_cpA, hK_bump, hI_bump, hR_bump, hN_bump, hA_bump, hQ_bump, hL_bump, hn_bump, hI_sI, hR_sR, hA_sA, hQ_sQ, hL_sL, hA_cpA, Ev_some]
      exact ⟨h1, rfl, hc1, hs1, c1, by rw [FrC_of f1]; exact hla⟩
  · refine ⟨none, fun q hq => (by cases hq), fun h m sv c hla => ?_⟩
    have k0 := Y_k0 c.y
    rw [act_pre c b1 b2 b3 b4 (by omega), e, iL_act_51_0]
    simp (disch := first | with_reducible assumption | exact cat_int | exact cat_ref | exact cat_null | exact cat_ra | exact Nat.le_of_ble_eq_true rfl | (simp (disch := omega) only [hK_sI, hR_sI, hN_sI, hA_sI, hQ_sI, hL_sI, hn_sI, hK_sR, hI_sR, hN_sR, hA_sR, hQ_sR, hL_sR, hn_sR, hK_sA, hI_sA, hR_sA, hN_sA, hQ_sA, hL_sA, hn_sA, hK_sQ, hI_sQ, hR_sQ, hN_sQ, hA_sQ, hL_sQ, hn_sQ, hK_sL, hI_sL, hR_sL, hN_sL, hA_sL, hQ_sL, hn_sL, hK_cpA, hI_cpA, hR_cpA, hN_cpA, hQ_cpA, hL_cpA, hn_cpA, hK_bump, hI_bump, hR_bump, hN_bump, hA_bump, hQ_bump, hL_bump, hn_bump, hI_sI, hR_sR, hA_sA, hQ_sQ, hL_sL, hA_cpA, isS, cat_int, cat_ref, cat_null, cat_ra, wds_nil, wds_int, wds_ref, wds_long, wds_ra, nz5, nz7, nz2, idxN, inAN, if_true, if_false, b00, b11, b01, eq_self, true_or, or_true, false_or, or_false, true_and, and_true, false_and, and_false, not_true, not_false_eq_true, p6, Ev_some]; done) | omega) only [iL_act_116, iL_act_118, iL_act_120, iL_act_395, ↓reduceIte, ofN, reduceCtorEq, Bool.false_eq_true, Nat.reduceAdd, Nat.reduceMul, Nat.reduceEqDiff, Nat.reduceLeDiff, Nat.reduceLT, le_nlt, ite_not, Nat.lt_irrefl, Decidable.not_not, kn1, kn0, knite, isS, getS, cat_int, cat_ref, cat_null, cat_ra, wds_nil, wds_int, wds_ref, wds_long, wds_ra, b0, b01, b00, b11, b10, if_true, if_false, ite_self, not_true, not_false_eq_true, true_or, or_true, false_or, or_false, true_and, and_true, false_and, and_false, eq_self, idxN, inAN, nI_add, nI_mul, nI_sub, nz5, nz7, nz2, nI_ltN, Nat.add_zero, Nat.zero_add, hK_sI, hR_sI, hN_sI, hA_sI, hQ_sI, hL_sI, hn_sI, hK_sR, hI_sR, hN_sR, hA_sR, hQ_sR, hL_sR, hn_sR, hK_sA, hI_sA, hR_sA, hN_sA, hQ_sA, hL_sA, hn_sA, hK_sQ, hI_sQ, hR_sQ, hN_sQ, hA_sQ, hL_sQ, hn_sQ, hK_sL, hI_sL, hR_sL, hN_sL, hA_sL, hQ_sL, hn_sL, hK_cpA, hI_cpA, hR_cpA, hN_cpA, hQ_cpA, hL_cpA, hn_cpA, hK_bump, hI_bump, hR_bump, hN_bump, hA_bump, hQ_bump, hL_bump, hn_bump, hI_sI, hR_sR, hA_sA, hQ_sQ, hL_sL, hA_cpA, p6, Ev_some]
    exact ⟨h, rfl, rfl, rfl, c, hla⟩
theorem a_1 (b : Bd (r, H, P, G, n) la N) (hN : N < 4000) (e : v &&& nI 15 = nI 1) : ActE L xs v (r, H, P, G, n) la N := by
  obtain ⟨j, cj, b1, b2, b3, b4, b5⟩ := b
  change J r H P G n at j
  change CJ r P la at cj
  change 3 ≤ P at b1
  change P ≤ 6 at b2
  change 2 ≤ G at b3
  change G ≤ 8 at b4
  change n ≤ N at b5
  by_cases p6 : G < 8
  · have x9 := lw_lt (v := sh v 4) (k := 100) (by omega)
    have y9 := lw_lt (v := sh v 11) (k := 60) (by omega)
    refine ⟨some ((guardR r G (nI (lw (sh v 4) 100)) (nI (lw (sh v 11) 60)) (-1), H, P, G + 1, n), la), fun q hq => ?_, fun h m sv c hla => ?_⟩
    · cases hq
      refine ⟨⟨J_guard j (by omega) ⟨_, by omega, rfl⟩ (Or.inl rfl) (Or.inl rfl), cj.to (fun p hp => ?_), b1, b2, by show 2 ≤ G + 1; omega, by show G + 1 ≤ 8; omega, by show n ≤ N + 24; omega⟩, fun _ _ => rfl⟩
      have hp : p < P := hp
      show guardR r G _ _ _ (27 + 9 * p) = _
      unfold guardR
      rw [if_neg (by omega), if_neg (by omega), if_neg (by omega), if_neg (by omega), if_neg (by omega)]
    · have k0 := Y_k0 c.y
      rw [act_pre c b1 b2 b3 b4 (by omega), e, iL_act_51_1]
      have l1 := fun (h9 : AH) => s_low (L := L) (xs := xs) (h := h9) (v := sh v 4) (k := 100) (by omega) (by omega)
      have l2 := fun (h9 : AH) => s_low (L := L) (xs := xs) (h := h9) (v := sh v 11) (k := 60) (by omega) (by omega)
      have cl := a_addGuard0 (L := L) (xs := xs) c j.un (x := nI (lw (sh v 4) 100)) (y := nI (lw (sh v 11) 60)) (w := -1) (Or.inl rfl) ⟨⟨le_nI (by omega) (by omega), le_nI (by omega) (by omega)⟩, le_nI (by omega) (by omega), le_nI (by omega) (by omega)⟩ (by omega) (Or.inl rfl)
      unfold sh at l1 l2 ⊢
      unfold sh at cl
      simp (disch := first | with_reducible assumption | exact cat_int | exact cat_ref | exact cat_null | exact cat_ra | exact Nat.le_of_ble_eq_true rfl | (simp (disch := omega) only [hK_sI, hR_sI, hN_sI, hA_sI, hQ_sI, hL_sI, hn_sI, hK_sR, hI_sR, hN_sR, hA_sR, hQ_sR, hL_sR, hn_sR, hK_sA, hI_sA, hR_sA, hN_sA, hQ_sA, hL_sA, hn_sA, hK_sQ, hI_sQ, hR_sQ, hN_sQ, hA_sQ, hL_sQ, hn_sQ, hK_sL, hI_sL, hR_sL, hN_sL, hA_sL, hQ_sL, hn_sL, hK_cpA, hI_cpA, hR_cpA, hN_cpA, hQ_cpA, hL_cpA, hn_cpA, hK_bump, hI_bump, hR_bump, hN_bump, hA_bump, hQ_bump, hL_bump, hn_bump, hI_sI, hR_sR, hA_sA, hQ_sQ, hL_sL, hA_cpA, isS, cat_int, cat_ref, cat_null, cat_ra, wds_nil, wds_int, wds_ref, wds_long, wds_ra, nz5, nz7, nz2, idxN, inAN, if_true, if_false, b00, b11, b01, eq_self, true_or, or_true, false_or, or_false, true_and, and_true, false_and, and_false, not_true, not_false_eq_true, p6, l1, l2]; done) | omega) only [iL_act_149, iL_act_150, iL_act_152, iL_act_155, iL_act_156, iL_act_157, iL_act_158, iL_act_159, iL_act_161, iL_act_164, iL_act_165, iL_act_167, iL_act_168, iL_act_170, iL_act_173, iL_act_174, ↓reduceIte, ofN, reduceCtorEq, Bool.false_eq_true, Nat.reduceAdd, Nat.reduceMul, Nat.reduceEqDiff, Nat.reduceLeDiff, Nat.reduceLT, le_nlt, ite_not, Nat.lt_irrefl, Decidable.not_not, kn1, kn0, knite, isS, getS, cat_int, cat_ref, cat_null, cat_ra, wds_nil, wds_int, wds_ref, wds_long, wds_ra, b0, b01, b00, b11, b10, if_true, if_false, ite_self, not_true, not_false_eq_true, true_or, or_true, false_or, or_false, true_and, and_true, false_and, and_false, eq_self, idxN, inAN, nI_add, nI_mul, nI_sub, nz5, nz7, nz2, nI_ltN, Nat.add_zero, Nat.zero_add, hK_sI, hR_sI, hN_sI, hA_sI, hQ_sI, hL_sI, hn_sI, hK_sR, hI_sR, hN_sR, hA_sR, hQ_sR, hL_sR, hn_sR, hK_sA, hI_sA, hR_sA, hN_sA, hQ_sA, hL_sA, hn_sA, hK_sQ, hI_sQ, hR_sQ, hN_sQ, hA_sQ, hL_sQ, hn_sQ, hK_sL, hI_sL, hR_sL, hN_sL, hA_sL, hQ_sL, hn_sL, hK_cpA, hI_cpA, hR_cpA, hN_cpA, hQ_cpA, hL_cpA, hn_cpA, hK_bump, hI_bump, hR_bump, hN_bump, hA_bump, hQ_bump, hL_bump, hn_bump, hI_sI, hR_sR, hA_sA, hQ_sQ, hL_sL, hA_cpA, p6, l1, l2]
      refine Ev_call cl ?_
      rintro _ ⟨h1, rfl, f1, hc1, hs1, c1⟩
      have kc1 := Y_k0 c1.y
      simp (disch := first | with_reducible assumption | exact cat_int | exact cat_ref | exact cat_null | exact cat_ra | exact Nat.le_of_ble_eq_true rfl | (simp (disch := omega) only [hK_sI, hR_sI, hN_sI, hA_sI, hQ_sI, hL_sI, hn_sI, hK_sR, hI_sR, hN_sR, hA_sR, hQ_sR, hL_sR, hn_sR, hK_sA, hI_sA, hR_sA, hN_sA, hQ_sA, hL_sA, hn_sA, hK_sQ, hI_sQ, hR_sQ, hN_sQ, hA_sQ, hL_sQ, hn_sQ, hK_sL, hI_sL, hR_sL, hN_sL, hA_sL, hQ_sL, hn_sL, hK_cpA, hI_cpA, hR_cpA, hN_cpA, hQ_cpA, hL_cpA, hn_cpA, hK_bump, hI_bump, hR_bump, hN_bump, hA_bump, hQ_bump, hL_bump, hn_bump, hI_sI, hR_sR, hA_sA, hQ_sQ, hL_sL, hA_cpA, isS, cat_int, cat_ref, cat_null, cat_ra, wds_nil, wds_int, wds_ref, wds_long, wds_ra, nz5, nz7, nz2, idxN, inAN, if_true, if_false, b00, b11, b01, eq_self, true_or, or_true, false_or, or_false, true_and, and_true, false_and, and_false, not_true, not_false_eq_true, Ev_some]; done) | omega) only [iL_act_177, iL_act_178, iL_act_395, ↓reduceIte, ofN, reduceCtorEq, Bool.false_eq_true, Nat.reduceAdd, Nat.reduceMul, Nat.reduceEqDiff, Nat.reduceLeDiff, Nat.reduceLT, le_nlt, ite_not, Nat.lt_irrefl, Decidable.not_not, kn1, kn0, knite, isS, getS, cat_int, cat_ref, cat_null, cat_ra, wds_nil, wds_int, wds_ref, wds_long, wds_ra, b0, b01, b00, b11, b10, if_true, if_false, ite_self, not_true, not_false_eq_true, true_or, or_true, false_or, or_false, true_and, and_true, false_and, and_false, eq_self, idxN, inAN, nI_add, nI_mul, nI_sub, nz5, nz7, nz2, nI_ltN, Nat.add_zero, Nat.zero_add, hK_sI, hR_sI, hN_sI, hA_sI, hQ_sI, hL_sI, hn_sI, hK_sR, hI_sR, hN_sR, hA_sR, hQ_sR, hL_sR, hn_sR, hK_sA, hI_sA, hR_sA, hN_sA, hQ_sA, hL_sA, hn_sA, hK_sQ, hI_sQ, hR_sQ, hN_sQ, hA_sQ, hL_sQ, hn_sQ, hK_sL, hI_sL, hR_sL, hN_sL, hA_sL, hQ_sL, hn_sL, hK_cpA, hI_cpA, hR_cpA, hN_cpA, hQ_cpA, hL_cpA, hn_cpA, hK_bump, hI_bump, hR_bump, hN_bump, hA_bump, hQ_bump, hL_bump, hn_bump, hI_sI, hR_sR, hA_sA, hQ_sQ, hL_sL, hA_cpA, Ev_some]
      exact ⟨h1, rfl, hc1, hs1, c1, by rw [FrC_of f1]; exact hla⟩
  · refine ⟨none, fun q hq => (by cases hq), fun h m sv c hla => ?_⟩
    have k0 := Y_k0 c.y
    rw [act_pre c b1 b2 b3 b4 (by omega), e, iL_act_51_1]
    simp (disch := first | with_reducible assumption | exact cat_int | exact cat_ref | exact cat_null | exact cat_ra | exact Nat.le_of_ble_eq_true rfl | (simp (disch := omega) only [hK_sI, hR_sI, hN_sI, hA_sI, hQ_sI, hL_sI, hn_sI, hK_sR, hI_sR, hN_sR, hA_sR, hQ_sR, hL_sR, hn_sR, hK_sA, hI_sA, hR_sA, hN_sA, hQ_sA, hL_sA, hn_sA, hK_sQ, hI_sQ, hR_sQ, hN_sQ, hA_sQ, hL_sQ, hn_sQ, hK_sL, hI_sL, hR_sL, hN_sL, hA_sL, hQ_sL, hn_sL, hK_cpA, hI_cpA, hR_cpA, hN_cpA, hQ_cpA, hL_cpA, hn_cpA, hK_bump, hI_bump, hR_bump, hN_bump, hA_bump, hQ_bump, hL_bump, hn_bump, hI_sI, hR_sR, hA_sA, hQ_sQ, hL_sL, hA_cpA, isS, cat_int, cat_ref, cat_null, cat_ra, wds_nil, wds_int, wds_ref, wds_long, wds_ra, nz5, nz7, nz2, idxN, inAN, if_true, if_false, b00, b11, b01, eq_self, true_or, or_true, false_or, or_false, true_and, and_true, false_and, and_false, not_true, not_false_eq_true, p6, Ev_some]; done) | omega) only [iL_act_149, iL_act_150, iL_act_152, iL_act_395, ↓reduceIte, ofN, reduceCtorEq, Bool.false_eq_true, Nat.reduceAdd, Nat.reduceMul, Nat.reduceEqDiff, Nat.reduceLeDiff, Nat.reduceLT, le_nlt, ite_not, Nat.lt_irrefl, Decidable.not_not, kn1, kn0, knite, isS, getS, cat_int, cat_ref, cat_null, cat_ra, wds_nil, wds_int, wds_ref, wds_long, wds_ra, b0, b01, b00, b11, b10, if_true, if_false, ite_self, not_true, not_false_eq_true, true_or, or_true, false_or, or_false, true_and, and_true, false_and, and_false, eq_self, idxN, inAN, nI_add, nI_mul, nI_sub, nz5, nz7, nz2, nI_ltN, Nat.add_zero, Nat.zero_add, hK_sI, hR_sI, hN_sI, hA_sI, hQ_sI, hL_sI, hn_sI, hK_sR, hI_sR, hN_sR, hA_sR, hQ_sR, hL_sR, hn_sR, hK_sA, hI_sA, hR_sA, hN_sA, hQ_sA, hL_sA, hn_sA, hK_sQ, hI_sQ, hR_sQ, hN_sQ, hA_sQ, hL_sQ, hn_sQ, hK_sL, hI_sL, hR_sL, hN_sL, hA_sL, hQ_sL, hn_sL, hK_cpA, hI_cpA, hR_cpA, hN_cpA, hQ_cpA, hL_cpA, hn_cpA, hK_bump, hI_bump, hR_bump, hN_bump, hA_bump, hQ_bump, hL_bump, hn_bump, hI_sI, hR_sR, hA_sA, hQ_sQ, hL_sL, hA_cpA, p6, Ev_some]
    exact ⟨h, rfl, rfl, rfl, c, hla⟩
theorem a_2 (b : Bd (r, H, P, G, n) la N) (hN : N < 4000) (e : v &&& nI 15 = nI 2) : ActE L xs v (r, H, P, G, n) la N := by
  obtain ⟨j, cj, b1, b2, b3, b4, b5⟩ := b
  change J r H P G n at j
  change CJ r P la at cj
  change 3 ≤ P at b1
  change P ≤ 6 at b2
  change 2 ≤ G at b3
  change G ≤ 8 at b4
  change n ≤ N at b5
  have H6 := j.H6
  by_cases p6 : H < 6
  · have x9 := lw_lt (v := sh v 4) (k := 9) (by omega)
    have y9 := lw_lt (v := sh v 8) (k := 3) (by omega)
    refine ⟨some ((holR r H (nI (n / 2 + lw (sh v 4) 9)) (nI (n / 2 + 9 + lw (sh v 8) 3)), H + 1, P, G, n), la), fun q hq => ?_, fun h m sv c hla => ?_⟩
    · cases hq
      refine ⟨⟨J_hol j p6, cj.to (fun p hp => ?_), b1, b2, b3, b4, by show n ≤ N + 24; omega⟩, fun _ _ => rfl⟩
      show holR r H _ _ (27 + 9 * p) = _
      unfold holR
      rw [if_neg (by omega), if_neg (by omega), if_neg (by omega)]
    · have k0 := Y_k0 c.y
      rw [act_pre c b1 b2 b3 b4 (by omega), e, iL_act_51_2]
      have l1 := fun (h9 : AH) => s_low (L := L) (xs := xs) (h := h9) (v := sh v 4) (k := 9) (by omega) (by omega)
      have l2 := fun (h9 : AH) => s_low (L := L) (xs := xs) (h := h9) (v := sh v 8) (k := 3) (by omega) (by omega)
      have cl := a_addHoliday0 (L := L) (xs := xs) c (x := nI (n / 2 + lw (sh v 4) 9)) (y := nI (n / 2 + 9 + lw (sh v 8) 3)) ⟨⟨le_nI (by omega) (by omega), le_nI (by omega) (by omega)⟩, le_nI (by omega) (by omega), le_nI (by omega) (by omega)⟩ p6
      unfold sh at l1 l2 ⊢
      unfold sh at cl
      simp (disch := first | with_reducible assumption | exact cat_int | exact cat_ref | exact cat_null | exact cat_ra | exact Nat.le_of_ble_eq_true rfl | (simp (disch := omega) only [hK_sI, hR_sI, hN_sI, hA_sI, hQ_sI, hL_sI, hn_sI, hK_sR, hI_sR, hN_sR, hA_sR, hQ_sR, hL_sR, hn_sR, hK_sA, hI_sA, hR_sA, hN_sA, hQ_sA, hL_sA, hn_sA, hK_sQ, hI_sQ, hR_sQ, hN_sQ, hA_sQ, hL_sQ, hn_sQ, hK_sL, hI_sL, hR_sL, hN_sL, hA_sL, hQ_sL, hn_sL, hK_cpA, hI_cpA, hR_cpA, hN_cpA, hQ_cpA, hL_cpA, hn_cpA, hK_bump, hI_bump, hR_bump, hN_bump, hA_bump, hQ_bump, hL_bump, hn_bump, hI_sI, hR_sR, hA_sA, hQ_sQ, hL_sL, hA_cpA, isS, cat_int, cat_ref, cat_null, cat_ra, wds_nil, wds_int, wds_ref, wds_long, wds_ra, nz5, nz7, nz2, idxN, inAN, if_true, if_false, b00, b11, b01, eq_self, true_or, or_true, false_or, or_false, true_and, and_true, false_and, and_false, not_true, not_false_eq_true, p6, l1, l2, a_v0 c, a_v3 c]; done) | omega) only [iL_act_181, iL_act_182, iL_act_183, iL_act_186, iL_act_188, iL_act_191, iL_act_192, iL_act_193, iL_act_194, iL_act_197, iL_act_198, iL_act_199, iL_act_200, iL_act_202, iL_act_205, iL_act_206, iL_act_207, iL_act_208, iL_act_211, iL_act_213, iL_act_214, iL_act_215, iL_act_217, iL_act_218, iL_act_219, iL_act_222, iL_act_223, ↓reduceIte, ofN, reduceCtorEq, Bool.false_eq_true, Nat.reduceAdd, Nat.reduceMul, Nat.reduceEqDiff, Nat.reduceLeDiff, Nat.reduceLT, le_nlt, ite_not, Nat.lt_irrefl, Decidable.not_not, kn1, kn0, knite, isS, getS, cat_int, cat_ref, cat_null, cat_ra, wds_nil, wds_int, wds_ref, wds_long, wds_ra, b0, b01, b00, b11, b10, if_true, if_false, ite_self, not_true, not_false_eq_true, true_or, or_true, false_or, or_false, true_and, and_true, false_and, and_false, eq_self, idxN, inAN, nI_add, nI_mul, nI_sub, nz5, nz7, nz2, nI_ltN, Nat.add_zero, Nat.zero_add, hK_sI, hR_sI, hN_sI, hA_sI, hQ_sI, hL_sI, hn_sI, hK_sR, hI_sR, hN_sR, hA_sR, hQ_sR, hL_sR, hn_sR, hK_sA, hI_sA, hR_sA, hN_sA, hQ_sA, hL_sA, hn_sA, hK_sQ, hI_sQ, hR_sQ, hN_sQ, hA_sQ, hL_sQ, hn_sQ, hK_sL, hI_sL, hR_sL, hN_sL, hA_sL, hQ_sL, hn_sL, hK_cpA, hI_cpA, hR_cpA, hN_cpA, hQ_cpA, hL_cpA, hn_cpA, hK_bump, hI_bump, hR_bump, hN_bump, hA_bump, hQ_bump, hL_bump, hn_bump, hI_sI, hR_sR, hA_sA, hQ_sQ, hL_sL, hA_cpA, p6, l1, l2, a_v0 c, a_v3 c]
      refine Ev_call cl ?_
      rintro _ ⟨h1, rfl, f1, hc1, hs1, c1⟩
      have kc1 := Y_k0 c1.y
      simp (disch := first | with_reducible assumption | exact cat_int | exact cat_ref | exact cat_null | exact cat_ra | exact Nat.le_of_ble_eq_true rfl | (simp (disch := omega) only [hK_sI, hR_sI, hN_sI, hA_sI, hQ_sI, hL_sI, hn_sI, hK_sR, hI_sR, hN_sR, hA_sR, hQ_sR, hL_sR, hn_sR, hK_sA, hI_sA, hR_sA, hN_sA, hQ_sA, hL_sA, hn_sA, hK_sQ, hI_sQ, hR_sQ, hN_sQ, hA_sQ, hL_sQ, hn_sQ, hK_sL, hI_sL, hR_sL, hN_sL, hA_sL, hQ_sL, hn_sL, hK_cpA, hI_cpA, hR_cpA, hN_cpA, hQ_cpA, hL_cpA, hn_cpA, hK_bump, hI_bump, hR_bump, hN_bump, hA_bump, hQ_bump, hL_bump, hn_bump, hI_sI, hR_sR, hA_sA, hQ_sQ, hL_sL, hA_cpA, isS, cat_int, cat_ref, cat_null, cat_ra, wds_nil, wds_int, wds_ref, wds_long, wds_ra, nz5, nz7, nz2, idxN, inAN, if_true, if_false, b00, b11, b01, eq_self, true_or, or_true, false_or, or_false, true_and, and_true, false_and, and_false, not_true, not_false_eq_true, Ev_some]; done) | omega) only [iL_act_226, iL_act_227, iL_act_395, ↓reduceIte, ofN, reduceCtorEq, Bool.false_eq_true, Nat.reduceAdd, Nat.reduceMul, Nat.reduceEqDiff, Nat.reduceLeDiff, Nat.reduceLT, le_nlt, ite_not, Nat.lt_irrefl, Decidable.not_not, kn1, kn0, knite, isS, getS, cat_int, cat_ref, cat_null, cat_ra, wds_nil, wds_int, wds_ref, wds_long, wds_ra, b0, b01, b00, b11, b10, if_true, if_false, ite_self, not_true, not_false_eq_true, true_or, or_true, false_or, or_false, true_and, and_true, false_and, and_false, eq_self, idxN, inAN, nI_add, nI_mul, nI_sub, nz5, nz7, nz2, nI_ltN, Nat.add_zero, Nat.zero_add, hK_sI, hR_sI, hN_sI, hA_sI, hQ_sI, hL_sI, hn_sI, hK_sR, hI_sR, hN_sR, hA_sR, hQ_sR, hL_sR, hn_sR, hK_sA, hI_sA, hR_sA, hN_sA, hQ_sA, hL_sA, hn_sA, hK_sQ, hI_sQ, hR_sQ, hN_sQ, hA_sQ, hL_sQ, hn_sQ, hK_sL, hI_sL, hR_sL, hN_sL, hA_sL, hQ_sL, hn_sL, hK_cpA, hI_cpA, hR_cpA, hN_cpA, hQ_cpA, hL_cpA, hn_cpA, hK_bump, hI_bump, hR_bump, hN_bump, hA_bump, hQ_bump, hL_bump, hn_bump, hI_sI, hR_sR, hA_sA, hQ_sQ, hL_sL, hA_cpA, Ev_some]
      exact ⟨h1, rfl, hc1, hs1, c1, by rw [FrC_of f1]; exact hla⟩
  · refine ⟨none, fun q hq => (by cases hq), fun h m sv c hla => ?_⟩
    have k0 := Y_k0 c.y
    rw [act_pre c b1 b2 b3 b4 (by omega), e, iL_act_51_2]
    simp (disch := first | with_reducible assumption | exact cat_int | exact cat_ref | exact cat_null | exact cat_ra | exact Nat.le_of_ble_eq_true rfl | (simp (disch := omega) only [hK_sI, hR_sI, hN_sI, hA_sI, hQ_sI, hL_sI, hn_sI, hK_sR, hI_sR, hN_sR, hA_sR, hQ_sR, hL_sR, hn_sR, hK_sA, hI_sA, hR_sA, hN_sA, hQ_sA, hL_sA, hn_sA, hK_sQ, hI_sQ, hR_sQ, hN_sQ, hA_sQ, hL_sQ, hn_sQ, hK_sL, hI_sL, hR_sL, hN_sL, hA_sL, hQ_sL, hn_sL, hK_cpA, hI_cpA, hR_cpA, hN_cpA, hQ_cpA, hL_cpA, hn_cpA, hK_bump, hI_bump, hR_bump, hN_bump, hA_bump, hQ_bump, hL_bump, hn_bump, hI_sI, hR_sR, hA_sA, hQ_sQ, hL_sL, hA_cpA, isS, cat_int, cat_ref, cat_null, cat_ra, wds_nil, wds_int, wds_ref, wds_long, wds_ra, nz5, nz7, nz2, idxN, inAN, if_true, if_false, b00, b11, b01, eq_self, true_or, or_true, false_or, or_false, true_and, and_true, false_and, and_false, not_true, not_false_eq_true, p6, a_v0 c, Ev_some]; done) | omega) only [iL_act_181, iL_act_182, iL_act_183, iL_act_186, iL_act_188, iL_act_395, ↓reduceIte, ofN, reduceCtorEq, Bool.false_eq_true, Nat.reduceAdd, Nat.reduceMul, Nat.reduceEqDiff, Nat.reduceLeDiff, Nat.reduceLT, le_nlt, ite_not, Nat.lt_irrefl, Decidable.not_not, kn1, kn0, knite, isS, getS, cat_int, cat_ref, cat_null, cat_ra, wds_nil, wds_int, wds_ref, wds_long, wds_ra, b0, b01, b00, b11, b10, if_true, if_false, ite_self, not_true, not_false_eq_true, true_or, or_true, false_or, or_false, true_and, and_true, false_and, and_false, eq_self, idxN, inAN, nI_add, nI_mul, nI_sub, nz5, nz7, nz2, nI_ltN, Nat.add_zero, Nat.zero_add, hK_sI, hR_sI, hN_sI, hA_sI, hQ_sI, hL_sI, hn_sI, hK_sR, hI_sR, hN_sR, hA_sR, hQ_sR, hL_sR, hn_sR, hK_sA, hI_sA, hR_sA, hN_sA, hQ_sA, hL_sA, hn_sA, hK_sQ, hI_sQ, hR_sQ, hN_sQ, hA_sQ, hL_sQ, hn_sQ, hK_sL, hI_sL, hR_sL, hN_sL, hA_sL, hQ_sL, hn_sL, hK_cpA, hI_cpA, hR_cpA, hN_cpA, hQ_cpA, hL_cpA, hn_cpA, hK_bump, hI_bump, hR_bump, hN_bump, hA_bump, hQ_bump, hL_bump, hn_bump, hI_sI, hR_sR, hA_sA, hQ_sQ, hL_sL, hA_cpA, p6, a_v0 c, Ev_some]
    exact ⟨h, rfl, rfl, rfl, c, hla⟩
theorem a_3 (b : Bd (r, H, P, G, n) la N) (hN : N < 4000) (e : v &&& nI 15 = nI 3) : ActE L xs v (r, H, P, G, n) la N := by
  obtain ⟨j, cj, b1, b2, b3, b4, b5⟩ := b
  change J r H P G n at j
  change CJ r P la at cj
  change 3 ≤ P at b1
  change P ≤ 6 at b2
  change 2 ≤ G at b3
  change G ≤ 8 at b4
  change n ≤ N at b5
  have x9 := lw_lt (v := sh v 4) (k := P) (by omega)
  have y9 := lw_lt (v := sh v 8) (k := 1024) (by omega)
  refine ⟨some ((pu r (22 + 9 * lw (sh v 4) P) (nI (lw (sh v 8) 1024)), H, P, G, n), la), fun q hq => ?_, fun h m sv c hla => ?_⟩
  · cases hq
    exact ⟨⟨J_needs j x9, cj.to (fun p hp => if_neg (by omega)), b1, b2, b3, b4, by show n ≤ N + 24; omega⟩, fun _ _ => rfl⟩
  · have k0 := Y_k0 c.y
    rw [act_pre c b1 b2 b3 b4 (by omega), e, iL_act_51_3]
    have l2 := fun (h9 : AH) => s_low (L := L) (xs := xs) (h := h9) (v := sh v 8) (k := 1024) (by omega) (by omega)
    have cl := a_setNeeds0 (L := L) (xs := xs) c x9 (y := nI (lw (sh v 8) 1024)) ⟨le_nI (by omega) (by omega), le_nI (by omega) (by omega)⟩
    unfold sh at l2 ⊢
    unfold sh at cl
    simp (disch := first | with_reducible assumption | exact cat_int | exact cat_ref | exact cat_null | exact cat_ra | exact Nat.le_of_ble_eq_true rfl | (simp (disch := omega) only [hK_sI, hR_sI, hN_sI, hA_sI, hQ_sI, hL_sI, hn_sI, hK_sR, hI_sR, hN_sR, hA_sR, hQ_sR, hL_sR, hn_sR, hK_sA, hI_sA, hR_sA, hN_sA, hQ_sA, hL_sA, hn_sA, hK_sQ, hI_sQ, hR_sQ, hN_sQ, hA_sQ, hL_sQ, hn_sQ, hK_sL, hI_sL, hR_sL, hN_sL, hA_sL, hQ_sL, hn_sL, hK_cpA, hI_cpA, hR_cpA, hN_cpA, hQ_cpA, hL_cpA, hn_cpA, hK_bump, hI_bump, hR_bump, hN_bump, hA_bump, hQ_bump, hL_bump, hn_bump, hI_sI, hR_sR, hA_sA, hQ_sQ, hL_sL, hA_cpA, isS, cat_int, cat_ref, cat_null, cat_ra, wds_nil, wds_int, wds_ref, wds_long, wds_ra, nz5, nz7, nz2, idxN, inAN, if_true, if_false, b00, b11, b01, eq_self, true_or, or_true, false_or, or_false, true_and, and_true, false_and, and_false, not_true, not_false_eq_true, l2]; done) | omega) only [iL_act_230, iL_act_231, iL_act_233, iL_act_234, iL_act_236, iL_act_237, iL_act_240, iL_act_243, ↓reduceIte, ofN, reduceCtorEq, Bool.false_eq_true, Nat.reduceAdd, Nat.reduceMul, Nat.reduceEqDiff, Nat.reduceLeDiff, Nat.reduceLT, le_nlt, ite_not, Nat.lt_irrefl, Decidable.not_not, kn1, kn0, knite, isS, getS, cat_int, cat_ref, cat_null, cat_ra, wds_nil, wds_int, wds_ref, wds_long, wds_ra, b0, b01, b00, b11, b10, if_true, if_false, ite_self, not_true, not_false_eq_true, true_or, or_true, false_or, or_false, true_and, and_true, false_and, and_false, eq_self, idxN, inAN, nI_add, nI_mul, nI_sub, nz5, nz7, nz2, nI_ltN, Nat.add_zero, Nat.zero_add, hK_sI, hR_sI, hN_sI, hA_sI, hQ_sI, hL_sI, hn_sI, hK_sR, hI_sR, hN_sR, hA_sR, hQ_sR, hL_sR, hn_sR, hK_sA, hI_sA, hR_sA, hN_sA, hQ_sA, hL_sA, hn_sA, hK_sQ, hI_sQ, hR_sQ, hN_sQ, hA_sQ, hL_sQ, hn_sQ, hK_sL, hI_sL, hR_sL, hN_sL, hA_sL, hQ_sL, hn_sL, hK_cpA, hI_cpA, hR_cpA, hN_cpA, hQ_cpA, hL_cpA, hn_cpA, hK_bump, hI_bump, hR_bump, hN_bump, hA_bump, hQ_bump, hL_bump, hn_bump, hI_sI, hR_sR, hA_sA, hQ_sQ, hL_sL, hA_cpA, l2]
    refine Ev_call cl ?_
    rintro _ ⟨h1, rfl, f1, hc1, hs1, c1⟩
    have kc1 := Y_k0 c1.y
    simp (disch := first | with_reducible assumption | exact cat_int | exact cat_ref | exact cat_null | exact cat_ra | exact Nat.le_of_ble_eq_true rfl | (simp (disch := omega) only [hK_sI, hR_sI, hN_sI, hA_sI, hQ_sI, hL_sI, hn_sI, hK_sR, hI_sR, hN_sR, hA_sR, hQ_sR, hL_sR, hn_sR, hK_sA, hI_sA, hR_sA, hN_sA, hQ_sA, hL_sA, hn_sA, hK_sQ, hI_sQ, hR_sQ, hN_sQ, hA_sQ, hL_sQ, hn_sQ, hK_sL, hI_sL, hR_sL, hN_sL, hA_sL, hQ_sL, hn_sL, hK_cpA, hI_cpA, hR_cpA, hN_cpA, hQ_cpA, hL_cpA, hn_cpA, hK_bump, hI_bump, hR_bump, hN_bump, hA_bump, hQ_bump, hL_bump, hn_bump, hI_sI, hR_sR, hA_sA, hQ_sQ, hL_sL, hA_cpA, isS, cat_int, cat_ref, cat_null, cat_ra, wds_nil, wds_int, wds_ref, wds_long, wds_ra, nz5, nz7, nz2, idxN, inAN, if_true, if_false, b00, b11, b01, eq_self, true_or, or_true, false_or, or_false, true_and, and_true, false_and, and_false, not_true, not_false_eq_true, Ev_some]; done) | omega) only [iL_act_246, iL_act_247, iL_act_395, ↓reduceIte, ofN, reduceCtorEq, Bool.false_eq_true, Nat.reduceAdd, Nat.reduceMul, Nat.reduceEqDiff, Nat.reduceLeDiff, Nat.reduceLT, le_nlt, ite_not, Nat.lt_irrefl, Decidable.not_not, kn1, kn0, knite, isS, getS, cat_int, cat_ref, cat_null, cat_ra, wds_nil, wds_int, wds_ref, wds_long, wds_ra, b0, b01, b00, b11, b10, if_true, if_false, ite_self, not_true, not_false_eq_true, true_or, or_true, false_or, or_false, true_and, and_true, false_and, and_false, eq_self, idxN, inAN, nI_add, nI_mul, nI_sub, nz5, nz7, nz2, nI_ltN, Nat.add_zero, Nat.zero_add, hK_sI, hR_sI, hN_sI, hA_sI, hQ_sI, hL_sI, hn_sI, hK_sR, hI_sR, hN_sR, hA_sR, hQ_sR, hL_sR, hn_sR, hK_sA, hI_sA, hR_sA, hN_sA, hQ_sA, hL_sA, hn_sA, hK_sQ, hI_sQ, hR_sQ, hN_sQ, hA_sQ, hL_sQ, hn_sQ, hK_sL, hI_sL, hR_sL, hN_sL, hA_sL, hQ_sL, hn_sL, hK_cpA, hI_cpA, hR_cpA, hN_cpA, hQ_cpA, hL_cpA, hn_cpA, hK_bump, hI_bump, hR_bump, hN_bump, hA_bump, hQ_bump, hL_bump, hn_bump, hI_sI, hR_sR, hA_sA, hQ_sQ, hL_sL, hA_cpA, Ev_some]
    exact ⟨h1, rfl, hc1, hs1, c1, by rw [FrC_of f1]; exact hla⟩
end
