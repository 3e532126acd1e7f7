/-! THE MODEL: the best replacements -/
def lkS (nd : Nat → Bool) (s : LK) (p : Nat) : Bool := nd p && decide (s.1 p = -1)
def dD (r : Rw) (g p : Nat) : Nat := min 99 (dsR r p g).toNatClampNeg
def okD (r : Rw) (g p : Nat) : Bool := !decide (r (94 + 9 * g) < dsR r p g)
def CdI (lk ok : Nat → Bool) (d : Nat → Nat) (P : Nat) (V : Nat → Nat) (i q T b : Nat) : Prop := b = V T ∨ ∃ p, p < P ∧ T.testBit p = true ∧ lk p = true ∧ ok p = true ∧ (256 ≤ del T p + i ∨ (del T p + i = 255 ∧ p < q)) ∧ b = V (del T p) + d p
section
variable {lk ok : Nat → Bool} {d : Nat → Nat} {V : Nat → Nat} {P T S q i a : Nat}
theorem del_lt (hT : T < 1024) (hb : T.testBit q = true) : del T q < T := by
  have h1 : del T q ≤ T := del_le
  have h2 : del T q ≠ T := by
    intro z
    have := del_bit (p := q) (j := q) hT
    rw [z, hb] at this
    simp at this
  omega
theorem ins_del (hT : T < 1024) (hb : T.testBit q = true) (hq : q < 10) : del T q ||| 2 ^ q = T := by
  apply Nat.eq_of_testBit_eq
  intro j
  rw [Nat.testBit_or, del_bit hT, Nat.testBit_two_pow]
  by_cases e : j = q
  · subst e; simp [hb]
  · have e2 : ¬ q = j := fun z => e z.symm
    simp [e, e2]
theorem del_ins (hS : S < 1024) (hb : S.testBit q = false) (hq : q < 10) : del (S ||| 2 ^ q) q = S ∧ (S ||| 2 ^ q).testBit q = true := by
  have hl : S ||| 2 ^ q < 1024 := Nat.or_lt_two_pow (n := 10) hS (Nat.pow_lt_pow_right (by omega) hq)
  refine ⟨?_, by rw [Nat.testBit_or, Nat.testBit_two_pow]; simp⟩
  apply Nat.eq_of_testBit_eq
  intro j
  rw [del_bit hl, Nat.testBit_or, Nat.testBit_two_pow]
  by_cases e : j = q
  · subst e; simp [hb]
  · have e2 : ¬ q = j := fun z => e z.symm
    simp [e, e2]
theorem CdI_at (hS : S < 256) (hi : S + i = 255) (h : IsM (CdI lk ok d P V i q S) a) : a = V S := by
  rcases h.1 with z | ⟨p, hp, b1, b2, b3, b4, z⟩
  · exact z
  · have := del_lt (T := S) (q := p) (by omega) b1
    omega
theorem CdI_step_n (hm : ¬ (T = S ||| 2 ^ q ∧ S.testBit q = false ∧ lk q = true ∧ ok q = true)) (hi : S + i = 255) (hT : T < 256) (hS : S < 256) (hq : q < 8) (h : IsM (CdI lk ok d P V i q T) a) : IsM (CdI lk ok d P V i (q + 1) T) a := by
  refine IsM_iff h (fun b => ?_)
  constructor
  · rintro (z | ⟨p, hp, b1, b2, b3, b4, z⟩)
    · exact Or.inl z
    · refine Or.inr ⟨p, hp, b1, b2, b3, ?_, z⟩
      rcases b4 with y | ⟨y, y2⟩
      · exact Or.inl y
      · by_cases e : p = q
        · exfalso
          subst e
          have e1 : del T p = S := by omega
          refine hm ⟨?_, ?_, b2, b3⟩
          · rw [← e1, ins_del (by omega) b1 (by omega)]
          · rw [← e1, del_bit (by omega)]; simp
        · exact Or.inr ⟨y, by omega⟩
  · rintro (z | ⟨p, hp, b1, b2, b3, b4, z⟩)
    · exact Or.inl z
    · refine Or.inr ⟨p, hp, b1, b2, b3, ?_, z⟩
      rcases b4 with y | ⟨y, y2⟩
      · exact Or.inl y
      · exact Or.inr ⟨y, by omega⟩
theorem CdI_step_y (hi : S + i = 255) (hS : S < 256) (hq : q < 8) (hqP : q < P) (hb : S.testBit q = false) (hl : lk q = true) (ho : ok q = true) (h : IsM (CdI lk ok d P V i q (S ||| 2 ^ q)) a) : IsM (CdI lk ok d P V i (q + 1) (S ||| 2 ^ q)) (min a (V S + d q)) := by
  obtain ⟨e1, e2⟩ := del_ins (S := S) (q := q) (by omega) hb (by omega)
  refine IsM_add h (fun b => ?_)
  constructor
  · rintro (z | ⟨p, hp, b1, b2, b3, b4, z⟩)
    · exact Or.inl (Or.inl z)
    · by_cases e : p = q
      · subst e
        rw [e1] at z
        exact Or.inr z
      · refine Or.inl (Or.inr ⟨p, hp, b1, b2, b3, ?_, z⟩)
        rcases b4 with y | ⟨y, y2⟩
        · exact Or.inl y
        · exact Or.inr ⟨y, by omega⟩
  · rintro ((z | ⟨p, hp, b1, b2, b3, b4, z⟩) | z)
    · exact Or.inl z
    · refine Or.inr ⟨p, hp, b1, b2, b3, ?_, z⟩
      rcases b4 with y | ⟨y, y2⟩
      · exact Or.inl y
      · exact Or.inr ⟨y, by omega⟩
    · exact Or.inr ⟨q, hqP, e2, hl, ho, Or.inr ⟨by rw [e1]; exact hi, by omega⟩, by rw [e1]; exact z⟩
theorem CdI_next (h : IsM (CdI lk ok d P V i P T) a) : IsM (CdI lk ok d P V (i + 1) 0 T) a := by
  refine IsM_iff h (fun b => ?_)
  constructor
  · rintro (z | ⟨p, hp, b1, b2, b3, b4, z⟩)
    · exact Or.inl z
    · exact Or.inr ⟨p, hp, b1, b2, b3, by omega, z⟩
  · rintro (z | ⟨p, hp, b1, b2, b3, b4, z⟩)
    · exact Or.inl z
    · exact Or.inr ⟨p, hp, b1, b2, b3, by omega, z⟩
theorem CdI_far (hS : S + i = 255) (hV : V S = 100000) (hT : V T ≤ 100000) (h : IsM (CdI lk ok d P V i 0 T) a) : IsM (CdI lk ok d P V (i + 1) 0 T) a := by
  have up := h.2 _ (Or.inl rfl)
  refine ⟨?_, ?_⟩
  · rcases h.1 with z | ⟨p, hp, b1, b2, b3, b4, z⟩
    · exact Or.inl z
    · exact Or.inr ⟨p, hp, b1, b2, b3, by omega, z⟩
  · rintro b (z | ⟨p, hp, b1, b2, b3, b4, z⟩)
    · omega
    · by_cases c : 256 ≤ del T p + i
      · exact h.2 b (Or.inr ⟨p, hp, b1, b2, b3, Or.inl c, z⟩)
      · have e : del T p = S := by omega
        rw [e, hV] at z
        omega
theorem CdI_0 : CdI lk ok d P V 0 0 T = fun b => b = V T ∨ ∃ p, p < P ∧ T.testBit p = true ∧ lk p = true ∧ ok p = true ∧ 256 ≤ del T p ∧ b = V (del T p) + d p := by
  funext b
  unfold CdI
  simp
theorem CdI_init (hT : T < 256) : IsM (CdI lk ok d P V 0 0 T) (V T) := by
  refine ⟨Or.inl rfl, ?_⟩
  rintro b (z | ⟨p, hp, b1, b2, b3, b4, z⟩)
  · omega
  · have : del T p ≤ T := del_le
    omega
theorem CdI_end (h : IsM (CdI lk ok d P V 256 0 T) a) : a = newV lk ok d V T P := by
  refine IsM_one (c := Cd lk ok d P V T) (IsM_iff h (fun b => ?_)) newV_is
  constructor
  · rintro (z | ⟨p, hp, b1, b2, b3, z⟩)
    · exact Or.inl z
    · exact Or.inr ⟨p, hp, b1, b2, b3, Or.inl (by omega), z⟩
  · rintro (z | ⟨p, hp, b1, b2, b3, b4, z⟩)
    · exact Or.inl z
    · exact Or.inr ⟨p, hp, b1, b2, b3, z⟩
end
section
variable {L : Nat} {xs : Nat → Int32} {h h2 : AH} {b H P G n : Nat} {r : Rw} {o : Option Nat} {s : LK}
theorem dD_eq (x : Mx h b r H P G n o) {g p : Nat} (hg : g < G) (hp : p < P) : dsR r p g = nI (dD r g p) := by
  obtain ⟨u, hu, eu⟩ := x.ho hg
  obtain ⟨v, hv, ev9⟩ := x.pl hp
  have z1 := dN_le hu hv
  have e : dsR r p g = nI (dN u v) := by unfold dsR; rw [eu, ev9, dst_N (by omega) (by omega)]
  unfold dD
  rw [e, idxN (by omega)]
  congr 1
  omega
theorem dD_le {g p : Nat} : dD r g p ≤ 99 := Nat.min_le_left _ _
theorem reck_may {d s9 : Int32} {g S q : Nat} {v6 v7 v8 : Value} (x : Mx h 152 r H P G n none) (m : Mo h s (wlI r d none) G) (hg : g < G) (hq : q < P) (hS : S < 256) : ev L xs mdX7_reckonSums 101 [.ref 151, .int d, .int s9, .int (nI g), .int (nI S), .int (nI q), v6, v7, v8] [] h = ev L xs mdX7_reckonSums 165 [.ref 151, .int d, .int s9, .int (nI g), .int (nI S), .int (nI q), .int (if S.testBit q = false ∧ lkS (nee r H d s9) s q = true ∧ okD r g q = true then nI 1 else nI 0), v7, v8] [] h := by
  have P8 := x.P8
  have G10 := x.G10
  have q8 : q < 8 := by omega
  have g10 : g < 10 := by omega
  have y := x.y
  have bit := m_in (s := S) (i := q) (by omega) (by omega)
  have wh := m.who q8
  have nn := d_needed (L := L) (xs := xs) (d := d) (s := s9) x q8
  have bk := x.k
  have bl := x.le
  have ba := x.a
  have dd := d_dist (L := L) (xs := xs) x hg hq
  unfold lkS okD
  cases cb : S.testBit q with
  | true =>
    rw [cb] at bit
    have e01 : (nI (b2n true) = nI 0) = False := by decide
    rw [if_neg (by simp)]
    simp (disch := first | with_reducible assumption | exact cat_int | exact cat_ref | exact cat_null | exact cat_ra | exact Nat.le_of_ble_eq_true rfl | (simp (disch := omega) only [hK_sI, hR_sI, hN_sI, hA_sI, hQ_sI, hL_sI, hn_sI, hK_sR, hI_sR, hN_sR, hA_sR, hQ_sR, hL_sR, hn_sR, hK_sA, hI_sA, hR_sA, hN_sA, hQ_sA, hL_sA, hn_sA, hK_sQ, hI_sQ, hR_sQ, hN_sQ, hA_sQ, hL_sQ, hn_sQ, hK_sL, hI_sL, hR_sL, hN_sL, hA_sL, hQ_sL, hn_sL, hK_cpA, hI_cpA, hR_cpA, hN_cpA, hQ_cpA, hL_cpA, hn_cpA, hK_bump, hI_bump, hR_bump, hN_bump, hA_bump, hQ_bump, hL_bump, hn_bump, hI_sI, hR_sR, hA_sA, hQ_sQ, hL_sL, hA_cpA, isS, cat_int, cat_ref, cat_null, cat_ra, wds_nil, wds_int, wds_ref, wds_long, wds_ra, nz5, nz7, nz2, idxN, inAN, if_true, if_false, b00, b11, b01, eq_self, true_or, or_true, false_or, or_false, true_and, and_true, false_and, and_false, not_true, not_false_eq_true, bit, e01]; done) | omega) only [iX7_reckonSums_101, iX7_reckonSums_103, iX7_reckonSums_105, iX7_reckonSums_106, iX7_reckonSums_107, iX7_reckonSums_108, iX7_reckonSums_111, iX7_reckonSums_112, iX7_reckonSums_115, iX7_reckonSums_117, iX7_reckonSums_118, iX7_reckonSums_119, iX7_reckonSums_122, iX7_reckonSums_123, iX7_reckonSums_126, iX7_reckonSums_128, iX7_reckonSums_129, iX7_reckonSums_130, iX7_reckonSums_133, iX7_reckonSums_136, iX7_reckonSums_137, iX7_reckonSums_140, iX7_reckonSums_141, iX7_reckonSums_142, iX7_reckonSums_145, iX7_reckonSums_146, iX7_reckonSums_149, iX7_reckonSums_150, iX7_reckonSums_152, iX7_reckonSums_155, iX7_reckonSums_158, iX7_reckonSums_159, iX7_reckonSums_162, iX7_reckonSums_163, ↓reduceIte, ofN, reduceCtorEq, Bool.false_eq_true, Nat.reduceAdd, Nat.reduceMul, Nat.reduceEqDiff, Nat.reduceLeDiff, Nat.reduceLT, le_nlt, ite_not, Nat.lt_irrefl, Decidable.not_not, kn1, kn0, knite, isS, getS, cat_int, cat_ref, cat_null, cat_ra, wds_nil, wds_int, wds_ref, wds_long, wds_ra, b0, b01, b00, b11, b10, if_true, if_false, ite_self, not_true, not_false_eq_true, true_or, or_true, false_or, or_false, true_and, and_true, false_and, and_false, eq_self, idxN, inAN, nI_add, nI_mul, nI_sub, nz5, nz7, nz2, nI_ltN, Nat.add_zero, Nat.zero_add, hK_sI, hR_sI, hN_sI, hA_sI, hQ_sI, hL_sI, hn_sI, hK_sR, hI_sR, hN_sR, hA_sR, hQ_sR, hL_sR, hn_sR, hK_sA, hI_sA, hR_sA, hN_sA, hQ_sA, hL_sA, hn_sA, hK_sQ, hI_sQ, hR_sQ, hN_sQ, hA_sQ, hL_sQ, hn_sQ, hK_sL, hI_sL, hR_sL, hN_sL, hA_sL, hQ_sL, hn_sL, hK_cpA, hI_cpA, hR_cpA, hN_cpA, hQ_cpA, hL_cpA, hn_cpA, hK_bump, hI_bump, hR_bump, hN_bump, hA_bump, hQ_bump, hL_bump, hn_bump, hI_sI, hR_sR, hA_sA, hQ_sQ, hL_sL, hA_cpA, bit, e01]
  | false =>
    rw [cb] at bit
    have e01 : (nI (b2n false) = nI 0) = True := by decide
    by_cases cw : s.1 q = -1
    · cases cn : nee r H d s9 q with
      | false =>
        rw [cn] at nn
        rw [if_neg (by simp)]
        simp (disch := first | with_reducible assumption | exact cat_int | exact cat_ref | exact cat_null | exact cat_ra | exact Nat.le_of_ble_eq_true rfl | (simp (disch := omega) only [hK_sI, hR_sI, hN_sI, hA_sI, hQ_sI, hL_sI, hn_sI, hK_sR, hI_sR, hN_sR, hA_sR, hQ_sR, hL_sR, hn_sR, hK_sA, hI_sA, hR_sA, hN_sA, hQ_sA, hL_sA, hn_sA, hK_sQ, hI_sQ, hR_sQ, hN_sQ, hA_sQ, hL_sQ, hn_sQ, hK_sL, hI_sL, hR_sL, hN_sL, hA_sL, hQ_sL, hn_sL, hK_cpA, hI_cpA, hR_cpA, hN_cpA, hQ_cpA, hL_cpA, hn_cpA, hK_bump, hI_bump, hR_bump, hN_bump, hA_bump, hQ_bump, hL_bump, hn_bump, hI_sI, hR_sR, hA_sA, hQ_sQ, hL_sL, hA_cpA, isS, cat_int, cat_ref, cat_null, cat_ra, wds_nil, wds_int, wds_ref, wds_long, wds_ra, nz5, nz7, nz2, idxN, inAN, if_true, if_false, b00, b11, b01, eq_self, true_or, or_true, false_or, or_false, true_and, and_true, false_and, and_false, not_true, not_false_eq_true, bit, e01, Y_k151 y, Y_r119 y, Y_k156 y, Y_n156 y, Y_r113 y, wh, cw, nn]; done) | omega) only [iX7_reckonSums_101, iX7_reckonSums_103, iX7_reckonSums_105, iX7_reckonSums_106, iX7_reckonSums_107, iX7_reckonSums_108, iX7_reckonSums_111, iX7_reckonSums_112, iX7_reckonSums_115, iX7_reckonSums_117, iX7_reckonSums_118, iX7_reckonSums_119, iX7_reckonSums_122, iX7_reckonSums_123, iX7_reckonSums_126, iX7_reckonSums_128, iX7_reckonSums_129, iX7_reckonSums_130, iX7_reckonSums_133, iX7_reckonSums_136, iX7_reckonSums_137, iX7_reckonSums_140, iX7_reckonSums_141, iX7_reckonSums_142, iX7_reckonSums_145, iX7_reckonSums_146, iX7_reckonSums_149, iX7_reckonSums_150, iX7_reckonSums_152, iX7_reckonSums_155, iX7_reckonSums_158, iX7_reckonSums_159, iX7_reckonSums_162, iX7_reckonSums_163, ↓reduceIte, ofN, reduceCtorEq, Bool.false_eq_true, Nat.reduceAdd, Nat.reduceMul, Nat.reduceEqDiff, Nat.reduceLeDiff, Nat.reduceLT, le_nlt, ite_not, Nat.lt_irrefl, Decidable.not_not, kn1, kn0, knite, isS, getS, cat_int, cat_ref, cat_null, cat_ra, wds_nil, wds_int, wds_ref, wds_long, wds_ra, b0, b01, b00, b11, b10, if_true, if_false, ite_self, not_true, not_false_eq_true, true_or, or_true, false_or, or_false, true_and, and_true, false_and, and_false, eq_self, idxN, inAN, nI_add, nI_mul, nI_sub, nz5, nz7, nz2, nI_ltN, Nat.add_zero, Nat.zero_add, hK_sI, hR_sI, hN_sI, hA_sI, hQ_sI, hL_sI, hn_sI, hK_sR, hI_sR, hN_sR, hA_sR, hQ_sR, hL_sR, hn_sR, hK_sA, hI_sA, hR_sA, hN_sA, hQ_sA, hL_sA, hn_sA, hK_sQ, hI_sQ, hR_sQ, hN_sQ, hA_sQ, hL_sQ, hn_sQ, hK_sL, hI_sL, hR_sL, hN_sL, hA_sL, hQ_sL, hn_sL, hK_cpA, hI_cpA, hR_cpA, hN_cpA, hQ_cpA, hL_cpA, hn_cpA, hK_bump, hI_bump, hR_bump, hN_bump, hA_bump, hQ_bump, hL_bump, hn_bump, hI_sI, hR_sR, hA_sA, hQ_sQ, hL_sL, hA_cpA, bit, e01, Y_k151 y, Y_r119 y, Y_k156 y, Y_n156 y, Y_r113 y, wh, cw, nn]
      | true =>
        rw [cn] at nn
        by_cases cr : r (94 + 9 * g) < dsR r q g
        · rw [if_neg (by simp [cr])]
          simp (disch := first | with_reducible assumption | exact cat_int | exact cat_ref | exact cat_null | exact cat_ra | exact Nat.le_of_ble_eq_true rfl | (simp (disch := omega) only [hK_sI, hR_sI, hN_sI, hA_sI, hQ_sI, hL_sI, hn_sI, hK_sR, hI_sR, hN_sR, hA_sR, hQ_sR, hL_sR, hn_sR, hK_sA, hI_sA, hR_sA, hN_sA, hQ_sA, hL_sA, hn_sA, hK_sQ, hI_sQ, hR_sQ, hN_sQ, hA_sQ, hL_sQ, hn_sQ, hK_sL, hI_sL, hR_sL, hN_sL, hA_sL, hQ_sL, hn_sL, hK_cpA, hI_cpA, hR_cpA, hN_cpA, hQ_cpA, hL_cpA, hn_cpA, hK_bump, hI_bump, hR_bump, hN_bump, hA_bump, hQ_bump, hL_bump, hn_bump, hI_sI, hR_sR, hA_sA, hQ_sQ, hL_sL, hA_cpA, isS, cat_int, cat_ref, cat_null, cat_ra, wds_nil, wds_int, wds_ref, wds_long, wds_ra, nz5, nz7, nz2, idxN, inAN, if_true, if_false, b00, b11, b01, eq_self, true_or, or_true, false_or, or_false, true_and, and_true, false_and, and_false, not_true, not_false_eq_true, bit, e01, Y_k151 y, Y_r119 y, Y_k156 y, Y_n156 y, Y_r113 y, wh, cw, nn, bk, bl, ba, d_by1, dd, g10, cr]; done) | omega) only [iX7_reckonSums_101, iX7_reckonSums_103, iX7_reckonSums_105, iX7_reckonSums_106, iX7_reckonSums_107, iX7_reckonSums_108, iX7_reckonSums_111, iX7_reckonSums_112, iX7_reckonSums_115, iX7_reckonSums_117, iX7_reckonSums_118, iX7_reckonSums_119, iX7_reckonSums_122, iX7_reckonSums_123, iX7_reckonSums_126, iX7_reckonSums_128, iX7_reckonSums_129, iX7_reckonSums_130, iX7_reckonSums_133, iX7_reckonSums_136, iX7_reckonSums_137, iX7_reckonSums_140, iX7_reckonSums_141, iX7_reckonSums_142, iX7_reckonSums_145, iX7_reckonSums_146, iX7_reckonSums_149, iX7_reckonSums_150, iX7_reckonSums_152, iX7_reckonSums_155, iX7_reckonSums_158, iX7_reckonSums_159, iX7_reckonSums_162, iX7_reckonSums_163, ↓reduceIte, ofN, reduceCtorEq, Bool.false_eq_true, Nat.reduceAdd, Nat.reduceMul, Nat.reduceEqDiff, Nat.reduceLeDiff, Nat.reduceLT, le_nlt, ite_not, Nat.lt_irrefl, Decidable.not_not, kn1, kn0, knite, isS, getS, cat_int, cat_ref, cat_null, cat_ra, wds_nil, wds_int, wds_ref, wds_long, wds_ra, b0, b01, b00, b11, b10, if_true, if_false, ite_self, not_true, not_false_eq_true, true_or, or_true, false_or, or_false, true_and, and_true, false_and, and_false, eq_self, idxN, inAN, nI_add, nI_mul, nI_sub, nz5, nz7, nz2, nI_ltN, Nat.add_zero, Nat.zero_add, hK_sI, hR_sI, hN_sI, hA_sI, hQ_sI, hL_sI, hn_sI, hK_sR, hI_sR, hN_sR, hA_sR, hQ_sR, hL_sR, hn_sR, hK_sA, hI_sA, hR_sA, hN_sA, hQ_sA, hL_sA, hn_sA, hK_sQ, hI_sQ, hR_sQ, hN_sQ, hA_sQ, hL_sQ, hn_sQ, hK_sL, hI_sL, hR_sL, hN_sL, hA_sL, hQ_sL, hn_sL, hK_cpA, hI_cpA, hR_cpA, hN_cpA, hQ_cpA, hL_cpA, hn_cpA, hK_bump, hI_bump, hR_bump, hN_bump, hA_bump, hQ_bump, hL_bump, hn_bump, hI_sI, hR_sR, hA_sA, hQ_sQ, hL_sL, hA_cpA, bit, e01, Y_k151 y, Y_r119 y, Y_k156 y, Y_n156 y, Y_r113 y, wh, cw, nn, bk, bl, ba, d_by1, dd, g10, cr]
        · rw [if_pos (by simp [cr, cw])]
          simp (disch := first | with_reducible assumption | exact cat_int | exact cat_ref | exact cat_null | exact cat_ra | exact Nat.le_of_ble_eq_true rfl | (simp (disch := omega) only [hK_sI, hR_sI, hN_sI, hA_sI, hQ_sI, hL_sI, hn_sI, hK_sR, hI_sR, hN_sR, hA_sR, hQ_sR, hL_sR, hn_sR, hK_sA, hI_sA, hR_sA, hN_sA, hQ_sA, hL_sA, hn_sA, hK_sQ, hI_sQ, hR_sQ, hN_sQ, hA_sQ, hL_sQ, hn_sQ, hK_sL, hI_sL, hR_sL, hN_sL, hA_sL, hQ_sL, hn_sL, hK_cpA, hI_cpA, hR_cpA, hN_cpA, hQ_cpA, hL_cpA, hn_cpA, hK_bump, hI_bump, hR_bump, hN_bump, hA_bump, hQ_bump, hL_bump, hn_bump, hI_sI, hR_sR, hA_sA, hQ_sQ, hL_sL, hA_cpA, isS, cat_int, cat_ref, cat_null, cat_ra, wds_nil, wds_int, wds_ref, wds_long, wds_ra, nz5, nz7, nz2, idxN, inAN, if_true, if_false, b00, b11, b01, eq_self, true_or, or_true, false_or, or_false, true_and, and_true, false_and, and_false, not_true, not_false_eq_true, bit, e01, Y_k151 y, Y_r119 y, Y_k156 y, Y_n156 y, Y_r113 y, wh, cw, nn, bk, bl, ba, d_by1, dd, g10, cr]; done) | omega) only [iX7_reckonSums_101, iX7_reckonSums_103, iX7_reckonSums_105, iX7_reckonSums_106, iX7_reckonSums_107, iX7_reckonSums_108, iX7_reckonSums_111, iX7_reckonSums_112, iX7_reckonSums_115, iX7_reckonSums_117, iX7_reckonSums_118, iX7_reckonSums_119, iX7_reckonSums_122, iX7_reckonSums_123, iX7_reckonSums_126, iX7_reckonSums_128, iX7_reckonSums_129, iX7_reckonSums_130, iX7_reckonSums_133, iX7_reckonSums_136, iX7_reckonSums_137, iX7_reckonSums_140, iX7_reckonSums_141, iX7_reckonSums_142, iX7_reckonSums_145, iX7_reckonSums_146, iX7_reckonSums_149, iX7_reckonSums_150, iX7_reckonSums_152, iX7_reckonSums_155, iX7_reckonSums_158, iX7_reckonSums_159, iX7_reckonSums_162, iX7_reckonSums_163, ↓reduceIte, ofN, reduceCtorEq, Bool.false_eq_true, Nat.reduceAdd, Nat.reduceMul, Nat.reduceEqDiff, Nat.reduceLeDiff, Nat.reduceLT, le_nlt, ite_not, Nat.lt_irrefl, Decidable.not_not, kn1, kn0, knite, isS, getS, cat_int, cat_ref, cat_null, cat_ra, wds_nil, wds_int, wds_ref, wds_long, wds_ra, b0, b01, b00, b11, b10, if_true, if_false, ite_self, not_true, not_false_eq_true, true_or, or_true, false_or, or_false, true_and, and_true, false_and, and_false, eq_self, idxN, inAN, nI_add, nI_mul, nI_sub, nz5, nz7, nz2, nI_ltN, Nat.add_zero, Nat.zero_add, hK_sI, hR_sI, hN_sI, hA_sI, hQ_sI, hL_sI, hn_sI, hK_sR, hI_sR, hN_sR, hA_sR, hQ_sR, hL_sR, hn_sR, hK_sA, hI_sA, hR_sA, hN_sA, hQ_sA, hL_sA, hn_sA, hK_sQ, hI_sQ, hR_sQ, hN_sQ, hA_sQ, hL_sQ, hn_sQ, hK_sL, hI_sL, hR_sL, hN_sL, hA_sL, hQ_sL, hn_sL, hK_cpA, hI_cpA, hR_cpA, hN_cpA, hQ_cpA, hL_cpA, hn_cpA, hK_bump, hI_bump, hR_bump, hN_bump, hA_bump, hQ_bump, hL_bump, hn_bump, hI_sI, hR_sR, hA_sA, hQ_sQ, hL_sL, hA_cpA, bit, e01, Y_k151 y, Y_r119 y, Y_k156 y, Y_n156 y, Y_r113 y, wh, cw, nn, bk, bl, ba, d_by1, dd, g10, cr]
    · rw [if_neg (by simp [cw])]
      simp (disch := first | with_reducible assumption | exact cat_int | exact cat_ref | exact cat_null | exact cat_ra | exact Nat.le_of_ble_eq_true rfl | (simp (disch := omega) only [hK_sI, hR_sI, hN_sI, hA_sI, hQ_sI, hL_sI, hn_sI, hK_sR, hI_sR, hN_sR, hA_sR, hQ_sR, hL_sR, hn_sR, hK_sA, hI_sA, hR_sA, hN_sA, hQ_sA, hL_sA, hn_sA, hK_sQ, hI_sQ, hR_sQ, hN_sQ, hA_sQ, hL_sQ, hn_sQ, hK_sL, hI_sL, hR_sL, hN_sL, hA_sL, hQ_sL, hn_sL, hK_cpA, hI_cpA, hR_cpA, hN_cpA, hQ_cpA, hL_cpA, hn_cpA, hK_bump, hI_bump, hR_bump, hN_bump, hA_bump, hQ_bump, hL_bump, hn_bump, hI_sI, hR_sR, hA_sA, hQ_sQ, hL_sL, hA_cpA, isS, cat_int, cat_ref, cat_null, cat_ra, wds_nil, wds_int, wds_ref, wds_long, wds_ra, nz5, nz7, nz2, idxN, inAN, if_true, if_false, b00, b11, b01, eq_self, true_or, or_true, false_or, or_false, true_and, and_true, false_and, and_false, not_true, not_false_eq_true, bit, e01, Y_k151 y, Y_r119 y, Y_k156 y, Y_n156 y, Y_r113 y, wh, cw]; done) | omega) only [iX7_reckonSums_101, iX7_reckonSums_103, iX7_reckonSums_105, iX7_reckonSums_106, iX7_reckonSums_107, iX7_reckonSums_108, iX7_reckonSums_111, iX7_reckonSums_112, iX7_reckonSums_115, iX7_reckonSums_117, iX7_reckonSums_118, iX7_reckonSums_119, iX7_reckonSums_122, iX7_reckonSums_123, iX7_reckonSums_126, iX7_reckonSums_128, iX7_reckonSums_129, iX7_reckonSums_130, iX7_reckonSums_133, iX7_reckonSums_136, iX7_reckonSums_137, iX7_reckonSums_140, iX7_reckonSums_141, iX7_reckonSums_142, iX7_reckonSums_145, iX7_reckonSums_146, iX7_reckonSums_149, iX7_reckonSums_150, iX7_reckonSums_152, iX7_reckonSums_155, iX7_reckonSums_158, iX7_reckonSums_159, iX7_reckonSums_162, iX7_reckonSums_163, ↓reduceIte, ofN, reduceCtorEq, Bool.false_eq_true, Nat.reduceAdd, Nat.reduceMul, Nat.reduceEqDiff, Nat.reduceLeDiff, Nat.reduceLT, le_nlt, ite_not, Nat.lt_irrefl, Decidable.not_not, kn1, kn0, knite, isS, getS, cat_int, cat_ref, cat_null, cat_ra, wds_nil, wds_int, wds_ref, wds_long, wds_ra, b0, b01, b00, b11, b10, if_true, if_false, ite_self, not_true, not_false_eq_true, true_or, or_true, false_or, or_false, true_and, and_true, false_and, and_false, eq_self, idxN, inAN, nI_add, nI_mul, nI_sub, nz5, nz7, nz2, nI_ltN, Nat.add_zero, Nat.zero_add, hK_sI, hR_sI, hN_sI, hA_sI, hQ_sI, hL_sI, hn_sI, hK_sR, hI_sR, hN_sR, hA_sR, hQ_sR, hL_sR, hn_sR, hK_sA, hI_sA, hR_sA, hN_sA, hQ_sA, hL_sA, hn_sA, hK_sQ, hI_sQ, hR_sQ, hN_sQ, hA_sQ, hL_sQ, hn_sQ, hK_sL, hI_sL, hR_sL, hN_sL, hA_sL, hQ_sL, hn_sL, hK_cpA, hI_cpA, hR_cpA, hN_cpA, hQ_cpA, hL_cpA, hn_cpA, hK_bump, hI_bump, hR_bump, hN_bump, hA_bump, hQ_bump, hL_bump, hn_bump, hI_sI, hR_sR, hA_sA, hQ_sQ, hL_sL, hA_cpA, bit, e01, Y_k151 y, Y_r119 y, Y_k156 y, Y_n156 y, Y_r113 y, wh, cw]
def SM (h : AH) (V : Nat → Nat) : Prop := ∀ T, T < 256 → hA h 159 T = nI (V T)
theorem setv_m1 {i : Nat} (hi : i < 256) : nI (255 - i) + -1 = if i + 1 = 256 then -1 else nI (255 - (i + 1)) := by
  by_cases c : i = 255
  · subst c
    rw [if_pos rfl]
    decide
  · rw [if_neg (by omega), nI_m1 (by omega)]
    congr 1
theorem reck_in {d s9 : Int32} {g i : Nat} {V : Nat → Nat} {v6 v7 v8 : Value} {Q : Res → Prop} (x : Mx h 152 r H P G n none) (m : Mo h s (wlI r d none) G) (hg : g < G) (hi : i < 256) (hV : ∀ T, V T = 100000 ∨ V T ≤ 990)
    (st : ∀ T, T < 256 → ∃ a, hA h 159 T = nI a ∧ IsM (CdI (lkS (nee r H d s9) s) (okD r g) (dD r g) P V i 0 T) a)
    (K : ∀ h' v5 v6 v7 v8, Fr (fun j => j = 159) h h' → (∀ T, T < 256 → ∃ a, hA h' 159 T = nI a ∧ IsM (CdI (lkS (nee r H d s9) s) (okD r g) (dD r g) P V (i + 1) 0 T) a) → Ev (ev L xs mdX7_reckonSums 236 [.ref 151, .int d, .int s9, .int (nI g), .int (nI (255 - i)), v5, v6, v7, v8] [] h') Q) : Ev (ev L xs mdX7_reckonSums 78 [.ref 151, .int d, .int s9, .int (nI g), .int (nI (255 - i)), .int (nI 0), v6, v7, v8] [] h) Q := by
  have P8 := x.P8
  have eS : 255 - i + i = 255 := by omega
  have hS : 255 - i < 256 := by omega
  obtain ⟨aS, eaS, hmS⟩ := st (255 - i) hS
  have vS := CdI_at hS eS hmS
  generalize hSS : 255 - i = S at *
  have mono : ∀ h9, Fr (fun j => j = 159) h h9 → Mx h9 152 r H P G n none ∧ Mo h9 s (wlI r d none) G := by
    intro h9 f9
    obtain ⟨m1, m2, m3, m4⟩ := m
    exact ⟨x.fr f9 (by omega) (by omega), fun p hp => by rw [f9.ar (by omega)]; exact m1 p hp, fun p hp => by rw [f9.ar (by omega)]; exact m2 p hp, fun g hg => by rw [f9.ar (by omega)]; exact m3 g hg, m4⟩
  rcases hV S with cV | cV
  · have y := x.y
    have e1 : ¬ aS < 100000 := by omega
    by_cases cP : 0 < P
    · simp (disch := first | with_reducible assumption | exact cat_int | exact cat_ref | exact cat_null | exact cat_ra | exact Nat.le_of_ble_eq_true rfl | (simp (disch := omega) only [hK_sI, hR_sI, hN_sI, hA_sI, hQ_sI, hL_sI, hn_sI, hK_sR, hI_sR, hN_sR, hA_sR, hQ_sR, hL_sR, hn_sR, hK_sA, hI_sA, hR_sA, hN_sA, hQ_sA, hL_sA, hn_sA, hK_sQ, hI_sQ, hR_sQ, hN_sQ, hA_sQ, hL_sQ, hn_sQ, hK_sL, hI_sL, hR_sL, hN_sL, hA_sL, hQ_sL, hn_sL, hK_cpA, hI_cpA, hR_cpA, hN_cpA, hQ_cpA, hL_cpA, hn_cpA, hK_bump, hI_bump, hR_bump, hN_bump, hA_bump, hQ_bump, hL_bump, hn_bump, hI_sI, hR_sR, hA_sA, hQ_sQ, hL_sL, hA_cpA, isS, cat_int, cat_ref, cat_null, cat_ra, wds_nil, wds_int, wds_ref, wds_long, wds_ra, nz5, nz7, nz2, idxN, inAN, if_true, if_false, b00, b11, b01, eq_self, true_or, or_true, false_or, or_false, true_and, and_true, false_and, and_false, not_true, not_false_eq_true, Y_k151 y, Y_r113 y, x.k, x.le, x.a, x.r3, Y_r123 y, Y_k159 y, Y_n159 y, eaS, hS, cP, e1, vS, cV, Nat.lt_irrefl]; done) | omega) only [iX7_reckonSums_78, iX7_reckonSums_80, iX7_reckonSums_81, iX7_reckonSums_84, iX7_reckonSums_85, iX7_reckonSums_86, iX7_reckonSums_89, iX7_reckonSums_90, iX7_reckonSums_93, iX7_reckonSums_95, iX7_reckonSums_96, iX7_reckonSums_98, ↓reduceIte, ofN, reduceCtorEq, Bool.false_eq_true, Nat.reduceAdd, Nat.reduceMul, Nat.reduceEqDiff, Nat.reduceLeDiff, Nat.reduceLT, le_nlt, ite_not, Nat.lt_irrefl, Decidable.not_not, kn1, kn0, knite, isS, getS, cat_int, cat_ref, cat_null, cat_ra, wds_nil, wds_int, wds_ref, wds_long, wds_ra, b0, b01, b00, b11, b10, if_true, if_false, ite_self, not_true, not_false_eq_true, true_or, or_true, false_or, or_false, true_and, and_true, false_and, and_false, eq_self, idxN, inAN, nI_add, nI_mul, nI_sub, nz5, nz7, nz2, nI_ltN, Nat.add_zero, Nat.zero_add, hK_sI, hR_sI, hN_sI, hA_sI, hQ_sI, hL_sI, hn_sI, hK_sR, hI_sR, hN_sR, hA_sR, hQ_sR, hL_sR, hn_sR, hK_sA, hI_sA, hR_sA, hN_sA, hQ_sA, hL_sA, hn_sA, hK_sQ, hI_sQ, hR_sQ, hN_sQ, hA_sQ, hL_sQ, hn_sQ, hK_sL, hI_sL, hR_sL, hN_sL, hA_sL, hQ_sL, hn_sL, hK_cpA, hI_cpA, hR_cpA, hN_cpA, hQ_cpA, hL_cpA, hn_cpA, hK_bump, hI_bump, hR_bump, hN_bump, hA_bump, hQ_bump, hL_bump, hn_bump, hI_sI, hR_sR, hA_sA, hQ_sQ, hL_sL, hA_cpA, Y_k151 y, Y_r113 y, x.k, x.le, x.a, x.r3, Y_r123 y, Y_k159 y, Y_n159 y, eaS, hS, cP, e1, vS, cV, Nat.lt_irrefl]
      exact K _ _ _ _ _ Fr.rfl (fun T hT => by
        obtain ⟨a, e, hm⟩ := st T hT
        exact ⟨a, e, CdI_far eS cV (by rcases hV T with z | z <;> omega) hm⟩)
    · simp (disch := first | with_reducible assumption | exact cat_int | exact cat_ref | exact cat_null | exact cat_ra | exact Nat.le_of_ble_eq_true rfl | (simp (disch := omega) only [hK_sI, hR_sI, hN_sI, hA_sI, hQ_sI, hL_sI, hn_sI, hK_sR, hI_sR, hN_sR, hA_sR, hQ_sR, hL_sR, hn_sR, hK_sA, hI_sA, hR_sA, hN_sA, hQ_sA, hL_sA, hn_sA, hK_sQ, hI_sQ, hR_sQ, hN_sQ, hA_sQ, hL_sQ, hn_sQ, hK_sL, hI_sL, hR_sL, hN_sL, hA_sL, hQ_sL, hn_sL, hK_cpA, hI_cpA, hR_cpA, hN_cpA, hQ_cpA, hL_cpA, hn_cpA, hK_bump, hI_bump, hR_bump, hN_bump, hA_bump, hQ_bump, hL_bump, hn_bump, hI_sI, hR_sR, hA_sA, hQ_sQ, hL_sL, hA_cpA, isS, cat_int, cat_ref, cat_null, cat_ra, wds_nil, wds_int, wds_ref, wds_long, wds_ra, nz5, nz7, nz2, idxN, inAN, if_true, if_false, b00, b11, b01, eq_self, true_or, or_true, false_or, or_false, true_and, and_true, false_and, and_false, not_true, not_false_eq_true, Y_k151 y, Y_r113 y, x.k, x.le, x.a, x.r3, Y_r123 y, Y_k159 y, Y_n159 y, eaS, hS, cP]; done) | omega) only [iX7_reckonSums_78, iX7_reckonSums_80, iX7_reckonSums_81, iX7_reckonSums_84, iX7_reckonSums_85, iX7_reckonSums_86, iX7_reckonSums_89, iX7_reckonSums_90, iX7_reckonSums_93, iX7_reckonSums_95, iX7_reckonSums_96, iX7_reckonSums_98, ↓reduceIte, ofN, reduceCtorEq, Bool.false_eq_true, Nat.reduceAdd, Nat.reduceMul, Nat.reduceEqDiff, Nat.reduceLeDiff, Nat.reduceLT, le_nlt, ite_not, Nat.lt_irrefl, Decidable.not_not, kn1, kn0, knite, isS, getS, cat_int, cat_ref, cat_null, cat_ra, wds_nil, wds_int, wds_ref, wds_long, wds_ra, b0, b01, b00, b11, b10, if_true, if_false, ite_self, not_true, not_false_eq_true, true_or, or_true, false_or, or_false, true_and, and_true, false_and, and_false, eq_self, idxN, inAN, nI_add, nI_mul, nI_sub, nz5, nz7, nz2, nI_ltN, Nat.add_zero, Nat.zero_add, hK_sI, hR_sI, hN_sI, hA_sI, hQ_sI, hL_sI, hn_sI, hK_sR, hI_sR, hN_sR, hA_sR, hQ_sR, hL_sR, hn_sR, hK_sA, hI_sA, hR_sA, hN_sA, hQ_sA, hL_sA, hn_sA, hK_sQ, hI_sQ, hR_sQ, hN_sQ, hA_sQ, hL_sQ, hn_sQ, hK_sL, hI_sL, hR_sL, hN_sL, hA_sL, hQ_sL, hn_sL, hK_cpA, hI_cpA, hR_cpA, hN_cpA, hQ_cpA, hL_cpA, hn_cpA, hK_bump, hI_bump, hR_bump, hN_bump, hA_bump, hQ_bump, hL_bump, hn_bump, hI_sI, hR_sR, hA_sA, hQ_sQ, hL_sL, hA_cpA, Y_k151 y, Y_r113 y, x.k, x.le, x.a, x.r3, Y_r123 y, Y_k159 y, Y_n159 y, eaS, hS, cP]
      exact K _ _ _ _ _ Fr.rfl (fun T hT => by
        obtain ⟨a, e, hm⟩ := st T hT
        exact ⟨a, e, CdI_far eS cV (by rcases hV T with z | z <;> omega) hm⟩)
  · refine Ev_loop (n := P) (fun q Ls h' => (∃ v6 v7 v8, Ls = [.ref 151, .int d, .int s9, .int (nI g), .int (nI S), .int (nI q), v6, v7, v8]) ∧ Fr (fun j => j = 159) h h' ∧ ∀ T, T < 256 → ∃ a, hA h' 159 T = nI a ∧ IsM (CdI (lkS (nee r H d s9) s) (okD r g) (dD r g) P V i q T) a) ?_ ?_ (Nat.zero_le _) ⟨⟨_, _, _, rfl⟩, Fr.rfl, st⟩
    · rintro q Ls h' hq ⟨⟨v6, v7, v8, rfl⟩, f, sq⟩ k
      obtain ⟨x', m'⟩ := mono h' f
      have y := x'.y
      obtain ⟨a, ea, hm⟩ := sq S hS
      have va := CdI_at hS eS hm
      subst va
      have q8 : q < 8 := by omega
      have e1 : V S < 100000 := by omega
      have wl9 : S ||| 2 ^ q < 256 := Nat.or_lt_two_pow (n := 8) (by omega) (Nat.pow_lt_pow_right (by omega) q8)
      have orr := m_or (s := S) (i := q) (by omega) (by omega)
      obtain ⟨w, ew, hw⟩ := sq (S ||| 2 ^ q) wl9
      have dd := d_dist (L := L) (xs := xs) x' hg hq
      rw [dD_eq x' hg hq] at dd
      have dl : dD r g q ≤ 99 := dD_le
      have wle := hw.2 _ (Or.inl rfl)
      have w9 : w ≤ 100000 := by rcases hV (S ||| 2 ^ q) with z | z <;> omega
      have e2 : V S + dD r g q < 2 ^ 31 := by omega
      rw [iX7_reckonSums_78]
      have pre : ev L xs mdX7_reckonSums 80 [.ref 151, .int d, .int s9, .int (nI g), .int (nI S), .int (nI q), v6, v7, v8] [.int (nI q)] h' = ev L xs mdX7_reckonSums 101 [.ref 151, .int d, .int s9, .int (nI g), .int (nI S), .int (nI q), v6, v7, v8] [] h' := by
        simp (disch := first | with_reducible assumption | exact cat_int | exact cat_ref | exact cat_null | exact cat_ra | exact Nat.le_of_ble_eq_true rfl | (simp (disch := omega) only [hK_sI, hR_sI, hN_sI, hA_sI, hQ_sI, hL_sI, hn_sI, hK_sR, hI_sR, hN_sR, hA_sR, hQ_sR, hL_sR, hn_sR, hK_sA, hI_sA, hR_sA, hN_sA, hQ_sA, hL_sA, hn_sA, hK_sQ, hI_sQ, hR_sQ, hN_sQ, hA_sQ, hL_sQ, hn_sQ, hK_sL, hI_sL, hR_sL, hN_sL, hA_sL, hQ_sL, hn_sL, hK_cpA, hI_cpA, hR_cpA, hN_cpA, hQ_cpA, hL_cpA, hn_cpA, hK_bump, hI_bump, hR_bump, hN_bump, hA_bump, hQ_bump, hL_bump, hn_bump, hI_sI, hR_sR, hA_sA, hQ_sQ, hL_sL, hA_cpA, isS, cat_int, cat_ref, cat_null, cat_ra, wds_nil, wds_int, wds_ref, wds_long, wds_ra, nz5, nz7, nz2, idxN, inAN, if_true, if_false, b00, b11, b01, eq_self, true_or, or_true, false_or, or_false, true_and, and_true, false_and, and_false, not_true, not_false_eq_true, Y_k151 y, Y_r113 y, x'.k, x'.le, x'.a, x'.r3, Y_r123 y, Y_k159 y, Y_n159 y, ea, hS, hq, e1]; done) | omega) only [iX7_reckonSums_80, iX7_reckonSums_81, iX7_reckonSums_84, iX7_reckonSums_85, iX7_reckonSums_86, iX7_reckonSums_89, iX7_reckonSums_90, iX7_reckonSums_93, iX7_reckonSums_95, iX7_reckonSums_96, iX7_reckonSums_98, ↓reduceIte, ofN, reduceCtorEq, Bool.false_eq_true, Nat.reduceAdd, Nat.reduceMul, Nat.reduceEqDiff, Nat.reduceLeDiff, Nat.reduceLT, le_nlt, ite_not, Nat.lt_irrefl, Decidable.not_not, kn1, kn0, knite, isS, getS, cat_int, cat_ref, cat_null, cat_ra, wds_nil, wds_int, wds_ref, wds_long, wds_ra, b0, b01, b00, b11, b10, if_true, if_false, ite_self, not_true, not_false_eq_true, true_or, or_true, false_or, or_false, true_and, and_true, false_and, and_false, eq_self, idxN, inAN, nI_add, nI_mul, nI_sub, nz5, nz7, nz2, nI_ltN, Nat.add_zero, Nat.zero_add, hK_sI, hR_sI, hN_sI, hA_sI, hQ_sI, hL_sI, hn_sI, hK_sR, hI_sR, hN_sR, hA_sR, hQ_sR, hL_sR, hn_sR, hK_sA, hI_sA, hR_sA, hN_sA, hQ_sA, hL_sA, hn_sA, hK_sQ, hI_sQ, hR_sQ, hN_sQ, hA_sQ, hL_sQ, hn_sQ, hK_sL, hI_sL, hR_sL, hN_sL, hA_sL, hQ_sL, hn_sL, hK_cpA, hI_cpA, hR_cpA, hN_cpA, hQ_cpA, hL_cpA, hn_cpA, hK_bump, hI_bump, hR_bump, hN_bump, hA_bump, hQ_bump, hL_bump, hn_bump, hI_sI, hR_sR, hA_sA, hQ_sQ, hL_sL, hA_cpA, Y_k151 y, Y_r113 y, x'.k, x'.le, x'.a, x'.r3, Y_r123 y, Y_k159 y, Y_n159 y, ea, hS, hq, e1]
      rw [pre, reck_may x' m' hg hq hS]
      by_cases cm : S.testBit q = false ∧ lkS (nee r H d s9) s q = true ∧ okD r g q = true
      · rw [if_pos cm]
        by_cases cl : V S + dD r g q < w
        · simp (disch := first | with_reducible assumption | exact cat_int | exact cat_ref | exact cat_null | exact cat_ra | exact Nat.le_of_ble_eq_true rfl | (simp (disch := omega) only [hK_sI, hR_sI, hN_sI, hA_sI, hQ_sI, hL_sI, hn_sI, hK_sR, hI_sR, hN_sR, hA_sR, hQ_sR, hL_sR, hn_sR, hK_sA, hI_sA, hR_sA, hN_sA, hQ_sA, hL_sA, hn_sA, hK_sQ, hI_sQ, hR_sQ, hN_sQ, hA_sQ, hL_sQ, hn_sQ, hK_sL, hI_sL, hR_sL, hN_sL, hA_sL, hQ_sL, hn_sL, hK_cpA, hI_cpA, hR_cpA, hN_cpA, hQ_cpA, hL_cpA, hn_cpA, hK_bump, hI_bump, hR_bump, hN_bump, hA_bump, hQ_bump, hL_bump, hn_bump, hI_sI, hR_sR, hA_sA, hQ_sQ, hL_sL, hA_cpA, isS, cat_int, cat_ref, cat_null, cat_ra, wds_nil, wds_int, wds_ref, wds_long, wds_ra, nz5, nz7, nz2, idxN, inAN, if_true, if_false, b00, b11, b01, eq_self, true_or, or_true, false_or, or_false, true_and, and_true, false_and, and_false, not_true, not_false_eq_true, Y_k151 y, Y_r113 y, Y_r123 y, Y_k159 y, Y_n159 y, ea, ew, hS, orr, wl9, dd, cl, e2]; done) | omega) only [iX7_reckonSums_165, iX7_reckonSums_167, iX7_reckonSums_168, iX7_reckonSums_170, iX7_reckonSums_171, iX7_reckonSums_172, iX7_reckonSums_174, iX7_reckonSums_175, iX7_reckonSums_178, iX7_reckonSums_180, iX7_reckonSums_181, iX7_reckonSums_182, iX7_reckonSums_185, iX7_reckonSums_186, iX7_reckonSums_188, iX7_reckonSums_191, iX7_reckonSums_192, iX7_reckonSums_194, iX7_reckonSums_195, iX7_reckonSums_198, iX7_reckonSums_200, iX7_reckonSums_202, iX7_reckonSums_205, iX7_reckonSums_207, iX7_reckonSums_208, iX7_reckonSums_211, iX7_reckonSums_213, iX7_reckonSums_214, iX7_reckonSums_217, iX7_reckonSums_219, iX7_reckonSums_222, iX7_reckonSums_223, iX7_reckonSums_226, iX7_reckonSums_228, iX7_reckonSums_229, iX7_reckonSums_230, iX7_reckonSums_233, ↓reduceIte, ofN, reduceCtorEq, Bool.false_eq_true, Nat.reduceAdd, Nat.reduceMul, Nat.reduceEqDiff, Nat.reduceLeDiff, Nat.reduceLT, le_nlt, ite_not, Nat.lt_irrefl, Decidable.not_not, kn1, kn0, knite, isS, getS, cat_int, cat_ref, cat_null, cat_ra, wds_nil, wds_int, wds_ref, wds_long, wds_ra, b0, b01, b00, b11, b10, if_true, if_false, ite_self, not_true, not_false_eq_true, true_or, or_true, false_or, or_false, true_and, and_true, false_and, and_false, eq_self, idxN, inAN, nI_add, nI_mul, nI_sub, nz5, nz7, nz2, nI_ltN, Nat.add_zero, Nat.zero_add, hK_sI, hR_sI, hN_sI, hA_sI, hQ_sI, hL_sI, hn_sI, hK_sR, hI_sR, hN_sR, hA_sR, hQ_sR, hL_sR, hn_sR, hK_sA, hI_sA, hR_sA, hN_sA, hQ_sA, hL_sA, hn_sA, hK_sQ, hI_sQ, hR_sQ, hN_sQ, hA_sQ, hL_sQ, hn_sQ, hK_sL, hI_sL, hR_sL, hN_sL, hA_sL, hQ_sL, hn_sL, hK_cpA, hI_cpA, hR_cpA, hN_cpA, hQ_cpA, hL_cpA, hn_cpA, hK_bump, hI_bump, hR_bump, hN_bump, hA_bump, hQ_bump, hL_bump, hn_bump, hI_sI, hR_sR, hA_sA, hQ_sQ, hL_sL, hA_cpA, Y_k151 y, Y_r113 y, Y_r123 y, Y_k159 y, Y_n159 y, ea, ew, hS, orr, wl9, dd, cl, e2]
          refine k _ _ ⟨⟨_, _, _, rfl⟩, Fr.wA (S := fun j => j = 159) f rfl, fun T hT => ?_⟩
          by_cases cT : T = S ||| 2 ^ q
          · refine ⟨V S + dD r g q, by rw [hA_sA, if_pos ⟨rfl, cT⟩], ?_⟩
            have := CdI_step_y eS hS q8 hq cm.1 cm.2.1 cm.2.2 hw
            rw [Nat.min_eq_right (by omega)] at this
            rw [cT]
            exact this
          · obtain ⟨a, e, hm⟩ := sq T hT
            exact ⟨a, by rw [hA_sA, if_neg (fun z => cT z.2)]; exact e, CdI_step_n (fun z => cT z.1) eS hT hS q8 hm⟩
        · simp (disch := first | with_reducible assumption | exact cat_int | exact cat_ref | exact cat_null | exact cat_ra | exact Nat.le_of_ble_eq_true rfl | (simp (disch := omega) only [hK_sI, hR_sI, hN_sI, hA_sI, hQ_sI, hL_sI, hn_sI, hK_sR, hI_sR, hN_sR, hA_sR, hQ_sR, hL_sR, hn_sR, hK_sA, hI_sA, hR_sA, hN_sA, hQ_sA, hL_sA, hn_sA, hK_sQ, hI_sQ, hR_sQ, hN_sQ, hA_sQ, hL_sQ, hn_sQ, hK_sL, hI_sL, hR_sL, hN_sL, hA_sL, hQ_sL, hn_sL, hK_cpA, hI_cpA, hR_cpA, hN_cpA, hQ_cpA, hL_cpA, hn_cpA, hK_bump, hI_bump, hR_bump, hN_bump, hA_bump, hQ_bump, hL_bump, hn_bump, hI_sI, hR_sR, hA_sA, hQ_sQ, hL_sL, hA_cpA, isS, cat_int, cat_ref, cat_null, cat_ra, wds_nil, wds_int, wds_ref, wds_long, wds_ra, nz5, nz7, nz2, idxN, inAN, if_true, if_false, b00, b11, b01, eq_self, true_or, or_true, false_or, or_false, true_and, and_true, false_and, and_false, not_true, not_false_eq_true, Y_k151 y, Y_r113 y, Y_r123 y, Y_k159 y, Y_n159 y, ea, ew, hS, orr, wl9, dd, cl, e2]; done) | omega) only [iX7_reckonSums_165, iX7_reckonSums_167, iX7_reckonSums_168, iX7_reckonSums_170, iX7_reckonSums_171, iX7_reckonSums_172, iX7_reckonSums_174, iX7_reckonSums_175, iX7_reckonSums_178, iX7_reckonSums_180, iX7_reckonSums_181, iX7_reckonSums_182, iX7_reckonSums_185, iX7_reckonSums_186, iX7_reckonSums_188, iX7_reckonSums_191, iX7_reckonSums_192, iX7_reckonSums_194, iX7_reckonSums_195, iX7_reckonSums_198, iX7_reckonSums_200, iX7_reckonSums_202, iX7_reckonSums_205, iX7_reckonSums_207, iX7_reckonSums_208, iX7_reckonSums_211, iX7_reckonSums_213, iX7_reckonSums_214, iX7_reckonSums_217, iX7_reckonSums_219, iX7_reckonSums_222, iX7_reckonSums_223, iX7_reckonSums_226, iX7_reckonSums_228, iX7_reckonSums_229, iX7_reckonSums_230, iX7_reckonSums_233, ↓reduceIte, ofN, reduceCtorEq, Bool.false_eq_true, Nat.reduceAdd, Nat.reduceMul, Nat.reduceEqDiff, Nat.reduceLeDiff, Nat.reduceLT, le_nlt, ite_not, Nat.lt_irrefl, Decidable.not_not, kn1, kn0, knite, isS, getS, cat_int, cat_ref, cat_null, cat_ra, wds_nil, wds_int, wds_ref, wds_long, wds_ra, b0, b01, b00, b11, b10, if_true, if_false, ite_self, not_true, not_false_eq_true, true_or, or_true, false_or, or_false, true_and, and_true, false_and, and_false, eq_self, idxN, inAN, nI_add, nI_mul, nI_sub, nz5, nz7, nz2, nI_ltN, Nat.add_zero, Nat.zero_add, hK_sI, hR_sI, hN_sI, hA_sI, hQ_sI, hL_sI, hn_sI, hK_sR, hI_sR, hN_sR, hA_sR, hQ_sR, hL_sR, hn_sR, hK_sA, hI_sA, hR_sA, hN_sA, hQ_sA, hL_sA, hn_sA, hK_sQ, hI_sQ, hR_sQ, hN_sQ, hA_sQ, hL_sQ, hn_sQ, hK_sL, hI_sL, hR_sL, hN_sL, hA_sL, hQ_sL, hn_sL, hK_cpA, hI_cpA, hR_cpA, hN_cpA, hQ_cpA, hL_cpA, hn_cpA, hK_bump, hI_bump, hR_bump, hN_bump, hA_bump, hQ_bump, hL_bump, hn_bump, hI_sI, hR_sR, hA_sA, hQ_sQ, hL_sL, hA_cpA, Y_k151 y, Y_r113 y, Y_r123 y, Y_k159 y, Y_n159 y, ea, ew, hS, orr, wl9, dd, cl, e2]
          refine k _ _ ⟨⟨_, _, _, rfl⟩, Fr.wA (S := fun j => j = 159) f rfl, fun T hT => ?_⟩
          by_cases cT : T = S ||| 2 ^ q
          · refine ⟨w, by rw [hA_sA, if_pos ⟨rfl, cT⟩], ?_⟩
            have := CdI_step_y eS hS q8 hq cm.1 cm.2.1 cm.2.2 hw
            rw [Nat.min_eq_left (by omega)] at this
            rw [cT]
            exact this
          · obtain ⟨a, e, hm⟩ := sq T hT
            exact ⟨a, by rw [hA_sA, if_neg (fun z => cT z.2)]; exact e, CdI_step_n (fun z => cT z.1) eS hT hS q8 hm⟩
      · rw [if_neg cm]
        simp (disch := first | with_reducible assumption | exact cat_int | exact cat_ref | exact cat_null | exact cat_ra | exact Nat.le_of_ble_eq_true rfl | (simp (disch := omega) only [hK_sI, hR_sI, hN_sI, hA_sI, hQ_sI, hL_sI, hn_sI, hK_sR, hI_sR, hN_sR, hA_sR, hQ_sR, hL_sR, hn_sR, hK_sA, hI_sA, hR_sA, hN_sA, hQ_sA, hL_sA, hn_sA, hK_sQ, hI_sQ, hR_sQ, hN_sQ, hA_sQ, hL_sQ, hn_sQ, hK_sL, hI_sL, hR_sL, hN_sL, hA_sL, hQ_sL, hn_sL, hK_cpA, hI_cpA, hR_cpA, hN_cpA, hQ_cpA, hL_cpA, hn_cpA, hK_bump, hI_bump, hR_bump, hN_bump, hA_bump, hQ_bump, hL_bump, hn_bump, hI_sI, hR_sR, hA_sA, hQ_sQ, hL_sL, hA_cpA, isS, cat_int, cat_ref, cat_null, cat_ra, wds_nil, wds_int, wds_ref, wds_long, wds_ra, nz5, nz7, nz2, idxN, inAN, if_true, if_false, b00, b11, b01, eq_self, true_or, or_true, false_or, or_false, true_and, and_true, false_and, and_false, not_true, not_false_eq_true, Y_k151 y, Y_r113 y, Y_r123 y, Y_k159 y, Y_n159 y, ea, ew, hS, orr, wl9, dd, e2]; done) | omega) only [iX7_reckonSums_165, iX7_reckonSums_167, iX7_reckonSums_168, iX7_reckonSums_170, iX7_reckonSums_171, iX7_reckonSums_172, iX7_reckonSums_174, iX7_reckonSums_175, iX7_reckonSums_178, iX7_reckonSums_180, iX7_reckonSums_181, iX7_reckonSums_182, iX7_reckonSums_185, iX7_reckonSums_186, iX7_reckonSums_188, iX7_reckonSums_191, iX7_reckonSums_192, iX7_reckonSums_194, iX7_reckonSums_195, iX7_reckonSums_198, iX7_reckonSums_200, iX7_reckonSums_202, iX7_reckonSums_205, iX7_reckonSums_207, iX7_reckonSums_208, iX7_reckonSums_211, iX7_reckonSums_213, iX7_reckonSums_214, iX7_reckonSums_217, iX7_reckonSums_219, iX7_reckonSums_222, iX7_reckonSums_223, iX7_reckonSums_226, iX7_reckonSums_228, iX7_reckonSums_229, iX7_reckonSums_230, iX7_reckonSums_233, ↓reduceIte, ofN, reduceCtorEq, Bool.false_eq_true, Nat.reduceAdd, Nat.reduceMul, Nat.reduceEqDiff, Nat.reduceLeDiff, Nat.reduceLT, le_nlt, ite_not, Nat.lt_irrefl, Decidable.not_not, kn1, kn0, knite, isS, getS, cat_int, cat_ref, cat_null, cat_ra, wds_nil, wds_int, wds_ref, wds_long, wds_ra, b0, b01, b00, b11, b10, if_true, if_false, ite_self, not_true, not_false_eq_true, true_or, or_true, false_or, or_false, true_and, and_true, false_and, and_false, eq_self, idxN, inAN, nI_add, nI_mul, nI_sub, nz5, nz7, nz2, nI_ltN, Nat.add_zero, Nat.zero_add, hK_sI, hR_sI, hN_sI, hA_sI, hQ_sI, hL_sI, hn_sI, hK_sR, hI_sR, hN_sR, hA_sR, hQ_sR, hL_sR, hn_sR, hK_sA, hI_sA, hR_sA, hN_sA, hQ_sA, hL_sA, hn_sA, hK_sQ, hI_sQ, hR_sQ, hN_sQ, hA_sQ, hL_sQ, hn_sQ, hK_sL, hI_sL, hR_sL, hN_sL, hA_sL, hQ_sL, hn_sL, hK_cpA, hI_cpA, hR_cpA, hN_cpA, hQ_cpA, hL_cpA, hn_cpA, hK_bump, hI_bump, hR_bump, hN_bump, hA_bump, hQ_bump, hL_bump, hn_bump, hI_sI, hR_sR, hA_sA, hQ_sQ, hL_sL, hA_cpA, Y_k151 y, Y_r113 y, Y_r123 y, Y_k159 y, Y_n159 y, ea, ew, hS, orr, wl9, dd, e2]
        refine k _ _ ⟨⟨_, _, _, rfl⟩, Fr.wA (S := fun j => j = 159) f rfl, fun T hT => ?_⟩
        obtain ⟨a, e, hm⟩ := sq T hT
        refine ⟨a, ?_, CdI_step_n (fun z => cm z.2) eS hT hS q8 hm⟩
        rw [hA_sA]
        by_cases cT : T = S ||| 2 ^ q
        · rw [if_pos ⟨rfl, cT⟩, ← e, cT, ew]
        · rw [if_neg (fun z => cT z.2)]; exact e
    · rintro Ls h' ⟨⟨v6, v7, v8, rfl⟩, f, sq⟩
      obtain ⟨x', m'⟩ := mono h' f
      have y := x'.y
      rw [iX7_reckonSums_78]
      simp (disch := first | with_reducible assumption | exact cat_int | exact cat_ref | exact cat_null | exact cat_ra | exact Nat.le_of_ble_eq_true rfl | (simp (disch := omega) only [hK_sI, hR_sI, hN_sI, hA_sI, hQ_sI, hL_sI, hn_sI, hK_sR, hI_sR, hN_sR, hA_sR, hQ_sR, hL_sR, hn_sR, hK_sA, hI_sA, hR_sA, hN_sA, hQ_sA, hL_sA, hn_sA, hK_sQ, hI_sQ, hR_sQ, hN_sQ, hA_sQ, hL_sQ, hn_sQ, hK_sL, hI_sL, hR_sL, hN_sL, hA_sL, hQ_sL, hn_sL, hK_cpA, hI_cpA, hR_cpA, hN_cpA, hQ_cpA, hL_cpA, hn_cpA, hK_bump, hI_bump, hR_bump, hN_bump, hA_bump, hQ_bump, hL_bump, hn_bump, hI_sI, hR_sR, hA_sA, hQ_sQ, hL_sL, hA_cpA, isS, cat_int, cat_ref, cat_null, cat_ra, wds_nil, wds_int, wds_ref, wds_long, wds_ra, nz5, nz7, nz2, idxN, inAN, if_true, if_false, b00, b11, b01, eq_self, true_or, or_true, false_or, or_false, true_and, and_true, false_and, and_false, not_true, not_false_eq_true, Y_k151 y, Y_r113 y, x'.k, x'.le, x'.a, x'.r3]; done) | omega) only [iX7_reckonSums_80, iX7_reckonSums_81, iX7_reckonSums_84, iX7_reckonSums_85, iX7_reckonSums_86, ↓reduceIte, ofN, reduceCtorEq, Bool.false_eq_true, Nat.reduceAdd, Nat.reduceMul, Nat.reduceEqDiff, Nat.reduceLeDiff, Nat.reduceLT, le_nlt, ite_not, Nat.lt_irrefl, Decidable.not_not, kn1, kn0, knite, isS, getS, cat_int, cat_ref, cat_null, cat_ra, wds_nil, wds_int, wds_ref, wds_long, wds_ra, b0, b01, b00, b11, b10, if_true, if_false, ite_self, not_true, not_false_eq_true, true_or, or_true, false_or, or_false, true_and, and_true, false_and, and_false, eq_self, idxN, inAN, nI_add, nI_mul, nI_sub, nz5, nz7, nz2, nI_ltN, Nat.add_zero, Nat.zero_add, hK_sI, hR_sI, hN_sI, hA_sI, hQ_sI, hL_sI, hn_sI, hK_sR, hI_sR, hN_sR, hA_sR, hQ_sR, hL_sR, hn_sR, hK_sA, hI_sA, hR_sA, hN_sA, hQ_sA, hL_sA, hn_sA, hK_sQ, hI_sQ, hR_sQ, hN_sQ, hA_sQ, hL_sQ, hn_sQ, hK_sL, hI_sL, hR_sL, hN_sL, hA_sL, hQ_sL, hn_sL, hK_cpA, hI_cpA, hR_cpA, hN_cpA, hQ_cpA, hL_cpA, hn_cpA, hK_bump, hI_bump, hR_bump, hN_bump, hA_bump, hQ_bump, hL_bump, hn_bump, hI_sI, hR_sR, hA_sA, hQ_sQ, hL_sL, hA_cpA, Y_k151 y, Y_r113 y, x'.k, x'.le, x'.a, x'.r3]
      exact K _ _ _ _ _ f (fun T hT => by
        obtain ⟨a, e, hm⟩ := sq T hT
        exact ⟨a, e, CdI_next hm⟩)
end
