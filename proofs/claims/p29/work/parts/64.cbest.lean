/-! THE CLASS: the best replacements -/
def cl9 (v : Nat) : Nat := if v = 100000 then 1000000 else v
theorem cl_min {a w d : Nat} (ha : a = 100000 ∨ a ≤ 2000) (hw : w = 100000 ∨ w ≤ 990) (hd : d ≤ 99) : (if cl9 w + d < cl9 a then cl9 w + d else cl9 a) = cl9 (min a (w + d)) := by
  unfold cl9
  rcases Nat.le_total a (w + d) with z | z
  · rw [Nat.min_eq_left z]
    repeat' split
    all_goals omega
  · rw [Nat.min_eq_right z]
    repeat' split
    all_goals omega
theorem cl_lt {v : Nat} (hv : v = 100000 ∨ v ≤ 990) : (cl9 v < 1000000) = (v < 100000) := by
  unfold cl9
  rw [eq_iff_iff]
  split <;> omega
def CdC (lk ok : Nat → Bool) (d : Nat → Nat) (P : Nat) (V : Nat → Nat) (S q b : Nat) : Prop := b = V (phi lk P S) ∨ ∃ j, j < q ∧ S.testBit j = true ∧ ok (posF lk P j) = true ∧ b = V (phi lk P (del S j)) + d (posF lk P j)
section
variable {lk ok : Nat → Bool} {d : Nat → Nat} {V : Nat → Nat} {P S q a : Nat}
theorem CdC_0 : IsM (CdC lk ok d P V S 0) (V (phi lk P S)) := ⟨Or.inl rfl, fun b hb => by
  rcases hb with z | ⟨j, hj, _⟩
  · omega
  · omega⟩
theorem CdC_y (hb : S.testBit q = true) (ho : ok (posF lk P q) = true) (h : IsM (CdC lk ok d P V S q) a) : IsM (CdC lk ok d P V S (q + 1)) (min a (V (phi lk P (del S q)) + d (posF lk P q))) := by
  refine IsM_add h (fun b => ?_)
  constructor
  · rintro (z | ⟨j, hj, b1, b2, z⟩)
    · exact Or.inl (Or.inl z)
    · by_cases e : j = q
      · subst e; exact Or.inr z
      · exact Or.inl (Or.inr ⟨j, by omega, b1, b2, z⟩)
  · rintro ((z | ⟨j, hj, b1, b2, z⟩) | z)
    · exact Or.inl z
    · exact Or.inr ⟨j, by omega, b1, b2, z⟩
    · exact Or.inr ⟨q, by omega, hb, ho, z⟩
theorem CdC_n (hn : ¬ (S.testBit q = true ∧ ok (posF lk P q) = true)) (h : IsM (CdC lk ok d P V S q) a) : IsM (CdC lk ok d P V S (q + 1)) a := by
  refine IsM_iff h (fun b => ?_)
  constructor
  · rintro (z | ⟨j, hj, b1, b2, z⟩)
    · exact Or.inl z
    · by_cases e : j = q
      · subst e; exact absurd ⟨b1, b2⟩ hn
      · exact Or.inr ⟨j, by omega, b1, b2, z⟩
  · rintro (z | ⟨j, hj, b1, b2, z⟩)
    · exact Or.inl z
    · exact Or.inr ⟨j, by omega, b1, b2, z⟩
theorem CdC_end (hP : P ≤ 8) (hS : S < 1024) (h : IsM (CdC lk ok d P V S (cnt lk P)) a) : a = newV lk ok d V (phi lk P S) P := by
  refine IsM_one (c := Cd lk ok d P V (phi lk P S)) (IsM_iff h (fun b => ?_)) newV_is
  constructor
  · rintro (z | ⟨p, hp, b1, b2, b3, z⟩)
    · exact Or.inl z
    · have cl := cnt_lt hp b2
      refine Or.inr ⟨cnt lk p, cl, ?_, by rw [posF_at hp b2]; exact b3, by rw [phi_del hP hS cl, posF_at hp b2]; exact z⟩
      rw [phi_bit, b2, Bool.true_and, Bool.and_eq_true] at b1
      exact b1.2
  · rintro (z | ⟨j, hj, b1, b2, z⟩)
    · exact Or.inl z
    · obtain ⟨p1, p2, p3⟩ := posF_ok hj
      refine Or.inr ⟨posF lk P j, p1, ?_, p2, b2, by rw [← phi_del hP hS hj]; exact z⟩
      rw [phi_bit, p2, p3, b1, decide_eq_true p1]
      rfl
theorem CdC_bd (hV : ∀ T, V T = 100000 ∨ V T ≤ 990) (hd : ∀ p, d p ≤ 99) (h : IsM (CdC lk ok d P V S q) a) : a = 100000 ∨ a ≤ 2000 := by
  have up := h.2 _ (Or.inl rfl)
  rcases h.1 with z | ⟨j, hj, b1, b2, z⟩
  · rcases hV (phi lk P S) with y | y <;> omega
  · have := hd (posF lk P j)
    rcases hV (phi lk P S) with y | y <;> rcases hV (phi lk P (del S j)) with x | x <;> omega
theorem popc_mle {g : Nat → Bool} : ∀ {k : Nat}, k ≤ 10 → popc (msk g k) ≤ k
  | 0, _ => by simp [msk, popc, b2n]
  | k + 1, hk => by
    have ih := popc_mle (g := g) (k := k) (by omega)
    have : b2n (g k) < 2 := b2n_lt
    rw [popc_msk10 (by omega)]
    omega
theorem popc_lt {c k : Nat} (hk : k ≤ 10) (hc : c < 2 ^ k) : popc c ≤ k := by
  have := popc_mle (g := c.testBit) hk
  rw [msk_self hc] at this
  exact this
end
def BsC (lk : Nat → Bool) (P : Nat) (V : Nat → Nat) (N k v : Nat) : Prop := (∃ c, c < N ∧ V (phi lk P c) < 100000 ∧ popc c = k ∧ V (phi lk P c) = v) ∧ ∀ c, c < N → V (phi lk P c) < 100000 → popc c < k ∨ popc c = k ∧ v ≤ V (phi lk P c)
def inRp (i : Nat) : Prop := i = 51 ∨ i = 52 ∨ i = 53
section
variable {L : Nat} {xs : Nat → Int32} {h h1 h2 : AH} {s : LK} {W nd : Nat → Bool} {r : Rw} {H P G n g : Nat} {lk : Nat → Bool}
theorem dD_eq2 (ok : rowOK r H P G n) {g p : Nat} (hg : g < G) (hp : p < P) : dsR r p g = nI (dD r g p) := by
  obtain ⟨u, hu, eu⟩ := ok.2.2.2.2.2.2.2.2.2.2 g hg
  obtain ⟨v, hv, ev9⟩ := ok.2.2.2.2.2.2.2.2.2.1 p hp
  have z1 := dN_le hu hv
  have e : dsR r p g = nI (dN u v) := by unfold dsR; rw [eu, ev9, dst_N (by omega) (by omega)]
  unfold dD
  rw [e, idxN (by omega)]
  congr 1
  omega
theorem s_collect (hy : LayF h) (hl : LaySt h 1) (R : Rl h 1 r H P G n) (o : Ro h s W nd P G) : Ev (ev L xs mdX3_collectPlaces 0 [.ref 51, .ref 1, .ref 48, .null] [] h) (fun z => ∃ h', z = .inl (none, h') ∧ Fr inRp h h' ∧ hI h' 49 51 = nI (cnt (lkS nd s) P) ∧ ∀ p, p < P → lkS nd s p = true → hA h' 52 (cnt (lkS nd s) p) = r (21 + 9 * p)) := by
  have P8 := R.P8
  have i51 : inRp 51 := Or.inl rfl
  have i52 : inRp 52 := Or.inr (Or.inl rfl)
  simp (disch := first | with_reducible assumption | exact cat_int | exact cat_ref | exact cat_null | exact cat_ra | exact Nat.le_of_ble_eq_true rfl | (simp (disch := omega) only [hK_sI, hR_sI, hN_sI, hA_sI, hQ_sI, hL_sI, hn_sI, hK_sR, hI_sR, hN_sR, hA_sR, hQ_sR, hL_sR, hn_sR, hK_sA, hI_sA, hR_sA, hN_sA, hQ_sA, hL_sA, hn_sA, hK_sQ, hI_sQ, hR_sQ, hN_sQ, hA_sQ, hL_sQ, hn_sQ, hK_sL, hI_sL, hR_sL, hN_sL, hA_sL, hQ_sL, hn_sL, hK_cpA, hI_cpA, hR_cpA, hN_cpA, hQ_cpA, hL_cpA, hn_cpA, hK_bump, hI_bump, hR_bump, hN_bump, hA_bump, hQ_bump, hL_bump, hn_bump, hI_sI, hR_sR, hA_sA, hQ_sQ, hL_sL, hA_cpA, isS, cat_int, cat_ref, cat_null, cat_ra, wds_nil, wds_int, wds_ref, wds_long, wds_ra, nz5, nz7, nz2, idxN, inAN, if_true, if_false, b00, b11, b01, eq_self, true_or, or_true, false_or, or_false, true_and, and_true, false_and, and_false, not_true, not_false_eq_true, Y_k51 hy]; done) | omega) only [iX3_collectPlaces_0, iX3_collectPlaces_1, iX3_collectPlaces_2, iX3_collectPlaces_5, iX3_collectPlaces_6, ↓reduceIte, ofN, reduceCtorEq, Bool.false_eq_true, Nat.reduceAdd, Nat.reduceMul, Nat.reduceEqDiff, Nat.reduceLeDiff, Nat.reduceLT, le_nlt, ite_not, Nat.lt_irrefl, Decidable.not_not, kn1, kn0, knite, isS, getS, cat_int, cat_ref, cat_null, cat_ra, wds_nil, wds_int, wds_ref, wds_long, wds_ra, b0, b01, b00, b11, b10, if_true, if_false, ite_self, not_true, not_false_eq_true, true_or, or_true, false_or, or_false, true_and, and_true, false_and, and_false, eq_self, idxN, inAN, nI_add, nI_mul, nI_sub, nz5, nz7, nz2, nI_ltN, Nat.add_zero, Nat.zero_add, hK_sI, hR_sI, hN_sI, hA_sI, hQ_sI, hL_sI, hn_sI, hK_sR, hI_sR, hN_sR, hA_sR, hQ_sR, hL_sR, hn_sR, hK_sA, hI_sA, hR_sA, hN_sA, hQ_sA, hL_sA, hn_sA, hK_sQ, hI_sQ, hR_sQ, hN_sQ, hA_sQ, hL_sQ, hn_sQ, hK_sL, hI_sL, hR_sL, hN_sL, hA_sL, hQ_sL, hn_sL, hK_cpA, hI_cpA, hR_cpA, hN_cpA, hQ_cpA, hL_cpA, hn_cpA, hK_bump, hI_bump, hR_bump, hN_bump, hA_bump, hQ_bump, hL_bump, hn_bump, hI_sI, hR_sR, hA_sA, hQ_sQ, hL_sL, hA_cpA, Y_k51 hy]
  refine Ev_loop (n := P) (fun i Ls h' => Ls = [.ref 51, .ref 1, .ref 48, .int (nI i)] ∧ Fr inRp h h' ∧ hI h' 49 51 = nI (cnt (lkS nd s) i) ∧ ∀ p, p < i → lkS nd s p = true → hA h' 52 (cnt (lkS nd s) p) = r (21 + 9 * p)) ?_ ?_ (Nat.zero_le _) ⟨rfl, Fr.wI Fr.rfl i51, by rw [hI_sI, if_pos ⟨rfl, rfl⟩]; rfl, fun p hp => absurd hp (by omega)⟩
  · rintro i Ls h' hi ⟨rfl, f, ec, ea⟩ k
    have i8 : i < 8 := by omega
    have y' := f.y hy
    have l' := f.st hl
    have R' := R.fr f (fun j h1 h2 h3 => by rcases h3 with z | z | z <;> omega)
    have o' := Ro_fr o f (fun j hj z => by have := hj.1; have := hj.2; rcases z with z | z | z <;> omega)
    have sl := s_lacks (L := L) (xs := xs) y' o' P8 hi
    have cs : cnt (lkS nd s) (i + 1) = cnt (lkS nd s) i + b2n (lkS nd s i) := rfl
    have cl := cnt_le (lk := lkS nd s) i
    have el : lkS nd s i = (nd i && decide (s.1 i = -1)) := rfl
    rw [iX3_collectPlaces_7]
    by_cases c : nd i = true ∧ s.1 i = -1
    · have lt : lkS nd s i = true := by rw [el, c.1, decide_eq_true c.2]; rfl
      rw [if_pos c] at sl
      rw [lt] at cs
      have cs : cnt (lkS nd s) (i + 1) = cnt (lkS nd s) i + 1 := cs
      have q1 : hQ h' 4 i = some (6 + i) := LS_pq l' i8
      have q2 : hK h' (6 + i) = 2 := LS_po l' i8
      have q3 : hI h' 32 (6 + i) = r (21 + 9 * i) := R'.p0 hi
      have q4 : hR h' 83 1 = some 4 := LS_r3 l'
      have q5 : hK h' 4 = 10 := LS_k3 l'
      have q6 : hN h' 4 = 8 := LS_n3 l'
      have q7 := LS_k l'
      have q8 : hI h' 84 1 = nI P := R'.hP
      have c8 : cnt (lkS nd s) i < 8 := by omega
      simp (disch := first | with_reducible assumption | exact cat_int | exact cat_ref | exact cat_null | exact cat_ra | exact Nat.le_of_ble_eq_true rfl | (simp (disch := omega) only [hK_sI, hR_sI, hN_sI, hA_sI, hQ_sI, hL_sI, hn_sI, hK_sR, hI_sR, hN_sR, hA_sR, hQ_sR, hL_sR, hn_sR, hK_sA, hI_sA, hR_sA, hN_sA, hQ_sA, hL_sA, hn_sA, hK_sQ, hI_sQ, hR_sQ, hN_sQ, hA_sQ, hL_sQ, hn_sQ, hK_sL, hI_sL, hR_sL, hN_sL, hA_sL, hQ_sL, hn_sL, hK_cpA, hI_cpA, hR_cpA, hN_cpA, hQ_cpA, hL_cpA, hn_cpA, hK_bump, hI_bump, hR_bump, hN_bump, hA_bump, hQ_bump, hL_bump, hn_bump, hI_sI, hR_sR, hA_sA, hQ_sQ, hL_sL, hA_cpA, isS, cat_int, cat_ref, cat_null, cat_ra, wds_nil, wds_int, wds_ref, wds_long, wds_ra, nz5, nz7, nz2, idxN, inAN, if_true, if_false, b00, b11, b01, eq_self, true_or, or_true, false_or, or_false, true_and, and_true, false_and, and_false, not_true, not_false_eq_true, Y_k51 y', Y_k48 y', Y_r48 y', Y_k52 y', Y_n52 y', hi, sl, ec, q1, q2, q3, q4, q5, q6, q7, q8, c8]; done) | omega) only [iX3_collectPlaces_8, iX3_collectPlaces_9, iX3_collectPlaces_12, iX3_collectPlaces_15, iX3_collectPlaces_16, iX3_collectPlaces_17, iX3_collectPlaces_20, iX3_collectPlaces_23, iX3_collectPlaces_24, iX3_collectPlaces_27, iX3_collectPlaces_28, iX3_collectPlaces_31, iX3_collectPlaces_32, iX3_collectPlaces_35, iX3_collectPlaces_36, iX3_collectPlaces_37, iX3_collectPlaces_40, iX3_collectPlaces_41, iX3_collectPlaces_42, iX3_collectPlaces_42i, iX3_collectPlaces_43, iX3_collectPlaces_46, iX3_collectPlaces_47, iX3_collectPlaces_48, iX3_collectPlaces_51, iX3_collectPlaces_54, ↓reduceIte, ofN, reduceCtorEq, Bool.false_eq_true, Nat.reduceAdd, Nat.reduceMul, Nat.reduceEqDiff, Nat.reduceLeDiff, Nat.reduceLT, le_nlt, ite_not, Nat.lt_irrefl, Decidable.not_not, kn1, kn0, knite, isS, getS, cat_int, cat_ref, cat_null, cat_ra, wds_nil, wds_int, wds_ref, wds_long, wds_ra, b0, b01, b00, b11, b10, if_true, if_false, ite_self, not_true, not_false_eq_true, true_or, or_true, false_or, or_false, true_and, and_true, false_and, and_false, eq_self, idxN, inAN, nI_add, nI_mul, nI_sub, nz5, nz7, nz2, nI_ltN, Nat.add_zero, Nat.zero_add, hK_sI, hR_sI, hN_sI, hA_sI, hQ_sI, hL_sI, hn_sI, hK_sR, hI_sR, hN_sR, hA_sR, hQ_sR, hL_sR, hn_sR, hK_sA, hI_sA, hR_sA, hN_sA, hQ_sA, hL_sA, hn_sA, hK_sQ, hI_sQ, hR_sQ, hN_sQ, hA_sQ, hL_sQ, hn_sQ, hK_sL, hI_sL, hR_sL, hN_sL, hA_sL, hQ_sL, hn_sL, hK_cpA, hI_cpA, hR_cpA, hN_cpA, hQ_cpA, hL_cpA, hn_cpA, hK_bump, hI_bump, hR_bump, hN_bump, hA_bump, hQ_bump, hL_bump, hn_bump, hI_sI, hR_sR, hA_sA, hQ_sQ, hL_sL, hA_cpA, Y_k51 y', Y_k48 y', Y_r48 y', Y_k52 y', Y_n52 y', hi, sl, ec, q1, q2, q3, q4, q5, q6, q7, q8, c8]
      refine k _ _ ⟨rfl, Fr.wI (Fr.wA f i52) i51, by rw [hI_sI, if_pos ⟨rfl, rfl⟩, cs], fun p hp lp => ?_⟩
      rw [hA_sI, hA_sA]
      by_cases cp : p = i
      · subst cp
        rw [if_pos ⟨rfl, rfl⟩]
      · have := cnt_lt (lk := lkS nd s) (show p < i by omega) lp
        rw [if_neg (by omega)]
        exact ea p (by omega) lp
    · have lf : lkS nd s i = false := by
        rw [el]
        cases hn : nd i with
        | false => rfl
        | true => rw [Bool.true_and]; exact decide_eq_false (fun z => c ⟨hn, z⟩)
      rw [if_neg c] at sl
      rw [lf] at cs
      have cs : cnt (lkS nd s) (i + 1) = cnt (lkS nd s) i := cs
      have q7 := LS_k l'
      have q8 : hI h' 84 1 = nI P := R'.hP
      simp (disch := first | with_reducible assumption | exact cat_int | exact cat_ref | exact cat_null | exact cat_ra | exact Nat.le_of_ble_eq_true rfl | (simp (disch := omega) only [hK_sI, hR_sI, hN_sI, hA_sI, hQ_sI, hL_sI, hn_sI, hK_sR, hI_sR, hN_sR, hA_sR, hQ_sR, hL_sR, hn_sR, hK_sA, hI_sA, hR_sA, hN_sA, hQ_sA, hL_sA, hn_sA, hK_sQ, hI_sQ, hR_sQ, hN_sQ, hA_sQ, hL_sQ, hn_sQ, hK_sL, hI_sL, hR_sL, hN_sL, hA_sL, hQ_sL, hn_sL, hK_cpA, hI_cpA, hR_cpA, hN_cpA, hQ_cpA, hL_cpA, hn_cpA, hK_bump, hI_bump, hR_bump, hN_bump, hA_bump, hQ_bump, hL_bump, hn_bump, hI_sI, hR_sR, hA_sA, hQ_sQ, hL_sL, hA_cpA, isS, cat_int, cat_ref, cat_null, cat_ra, wds_nil, wds_int, wds_ref, wds_long, wds_ra, nz5, nz7, nz2, idxN, inAN, if_true, if_false, b00, b11, b01, eq_self, true_or, or_true, false_or, or_false, true_and, and_true, false_and, and_false, not_true, not_false_eq_true, Y_k48 y', hi, sl, q7, q8]; done) | omega) only [iX3_collectPlaces_8, iX3_collectPlaces_9, iX3_collectPlaces_12, iX3_collectPlaces_15, iX3_collectPlaces_16, iX3_collectPlaces_17, iX3_collectPlaces_20, iX3_collectPlaces_23, iX3_collectPlaces_24, iX3_collectPlaces_27, iX3_collectPlaces_28, iX3_collectPlaces_31, iX3_collectPlaces_32, iX3_collectPlaces_35, iX3_collectPlaces_36, iX3_collectPlaces_37, iX3_collectPlaces_40, iX3_collectPlaces_41, iX3_collectPlaces_42, iX3_collectPlaces_42i, iX3_collectPlaces_43, iX3_collectPlaces_46, iX3_collectPlaces_47, iX3_collectPlaces_48, iX3_collectPlaces_51, iX3_collectPlaces_54, ↓reduceIte, ofN, reduceCtorEq, Bool.false_eq_true, Nat.reduceAdd, Nat.reduceMul, Nat.reduceEqDiff, Nat.reduceLeDiff, Nat.reduceLT, le_nlt, ite_not, Nat.lt_irrefl, Decidable.not_not, kn1, kn0, knite, isS, getS, cat_int, cat_ref, cat_null, cat_ra, wds_nil, wds_int, wds_ref, wds_long, wds_ra, b0, b01, b00, b11, b10, if_true, if_false, ite_self, not_true, not_false_eq_true, true_or, or_true, false_or, or_false, true_and, and_true, false_and, and_false, eq_self, idxN, inAN, nI_add, nI_mul, nI_sub, nz5, nz7, nz2, nI_ltN, Nat.add_zero, Nat.zero_add, hK_sI, hR_sI, hN_sI, hA_sI, hQ_sI, hL_sI, hn_sI, hK_sR, hI_sR, hN_sR, hA_sR, hQ_sR, hL_sR, hn_sR, hK_sA, hI_sA, hR_sA, hN_sA, hQ_sA, hL_sA, hn_sA, hK_sQ, hI_sQ, hR_sQ, hN_sQ, hA_sQ, hL_sQ, hn_sQ, hK_sL, hI_sL, hR_sL, hN_sL, hA_sL, hQ_sL, hn_sL, hK_cpA, hI_cpA, hR_cpA, hN_cpA, hQ_cpA, hL_cpA, hn_cpA, hK_bump, hI_bump, hR_bump, hN_bump, hA_bump, hQ_bump, hL_bump, hn_bump, hI_sI, hR_sR, hA_sA, hQ_sQ, hL_sL, hA_cpA, Y_k48 y', hi, sl, q7, q8]
      refine k _ _ ⟨rfl, f, by rw [cs]; exact ec, fun p hp lp => ?_⟩
      by_cases cp : p = i
      · subst cp
        rw [lf] at lp
        cases lp
      · exact ea p (by omega) lp
  · rintro Ls h' ⟨rfl, f, ec, ea⟩
    have l' := f.st hl
    have R' := R.fr f (fun j h1 h2 h3 => by rcases h3 with z | z | z <;> omega)
    have q7 := LS_k l'
    have q8 : hI h' 84 1 = nI P := R'.hP
    rw [iX3_collectPlaces_7]
    simp (disch := first | with_reducible assumption | exact cat_int | exact cat_ref | exact cat_null | exact cat_ra | exact Nat.le_of_ble_eq_true rfl | (simp (disch := omega) only [hK_sI, hR_sI, hN_sI, hA_sI, hQ_sI, hL_sI, hn_sI, hK_sR, hI_sR, hN_sR, hA_sR, hQ_sR, hL_sR, hn_sR, hK_sA, hI_sA, hR_sA, hN_sA, hQ_sA, hL_sA, hn_sA, hK_sQ, hI_sQ, hR_sQ, hN_sQ, hA_sQ, hL_sQ, hn_sQ, hK_sL, hI_sL, hR_sL, hN_sL, hA_sL, hQ_sL, hn_sL, hK_cpA, hI_cpA, hR_cpA, hN_cpA, hQ_cpA, hL_cpA, hn_cpA, hK_bump, hI_bump, hR_bump, hN_bump, hA_bump, hQ_bump, hL_bump, hn_bump, hI_sI, hR_sR, hA_sA, hQ_sQ, hL_sL, hA_cpA, isS, cat_int, cat_ref, cat_null, cat_ra, wds_nil, wds_int, wds_ref, wds_long, wds_ra, nz5, nz7, nz2, idxN, inAN, if_true, if_false, b00, b11, b01, eq_self, true_or, or_true, false_or, or_false, true_and, and_true, false_and, and_false, not_true, not_false_eq_true, q7, q8, Ev_some]; done) | omega) only [iX3_collectPlaces_8, iX3_collectPlaces_9, iX3_collectPlaces_12, iX3_collectPlaces_57, ↓reduceIte, ofN, reduceCtorEq, Bool.false_eq_true, Nat.reduceAdd, Nat.reduceMul, Nat.reduceEqDiff, Nat.reduceLeDiff, Nat.reduceLT, le_nlt, ite_not, Nat.lt_irrefl, Decidable.not_not, kn1, kn0, knite, isS, getS, cat_int, cat_ref, cat_null, cat_ra, wds_nil, wds_int, wds_ref, wds_long, wds_ra, b0, b01, b00, b11, b10, if_true, if_false, ite_self, not_true, not_false_eq_true, true_or, or_true, false_or, or_false, true_and, and_true, false_and, and_false, eq_self, idxN, inAN, nI_add, nI_mul, nI_sub, nz5, nz7, nz2, nI_ltN, Nat.add_zero, Nat.zero_add, hK_sI, hR_sI, hN_sI, hA_sI, hQ_sI, hL_sI, hn_sI, hK_sR, hI_sR, hN_sR, hA_sR, hQ_sR, hL_sR, hn_sR, hK_sA, hI_sA, hR_sA, hN_sA, hQ_sA, hL_sA, hn_sA, hK_sQ, hI_sQ, hR_sQ, hN_sQ, hA_sQ, hL_sQ, hn_sQ, hK_sL, hI_sL, hR_sL, hN_sL, hA_sL, hQ_sL, hn_sL, hK_cpA, hI_cpA, hR_cpA, hN_cpA, hQ_cpA, hL_cpA, hn_cpA, hK_bump, hI_bump, hR_bump, hN_bump, hA_bump, hQ_bump, hL_bump, hn_bump, hI_sI, hR_sR, hA_sA, hQ_sQ, hL_sL, hA_cpA, q7, q8, Ev_some]
    exact ⟨h', rfl, f, ec, ea⟩
/-- what the sums hold -/
def SC (h : AH) (lk : Nat → Bool) (P : Nat) (V : Nat → Nat) : Prop := ∀ c, c < 2 ^ cnt lk P → hA h 53 c = nI (cl9 (V (phi lk P c)))
/-- the places are collected -/
def PC (h : AH) (lk : Nat → Bool) (r : Rw) (P : Nat) : Prop := hI h 49 51 = nI (cnt lk P) ∧ ∀ i, i < cnt lk P → hA h 52 i = r (21 + 9 * posF lk P i)
theorem PC.fr (c : PC h lk r P) (f : Fr (fun i => i = 53) h h2) : PC h2 lk r P := ⟨by rw [f.fi (by omega)]; exact c.1, fun i hi => by rw [f.ar (by omega)]; exact c.2 i hi⟩
theorem s_ways {V : Nat → Nat} (hy : LayF h) (hl : LaySt h 1) (R : Rl h 1 r H P G n) (ok : rowOK r H P G n) (pc : PC h lk r P) (sc : SC h lk P V) (hV : ∀ T, V T = 100000 ∨ V T ≤ 990) (hV0 : V 0 = 0) (hV1 : newV lk (okD r g) (dD r g) V 0 P = 0) (hg : g < G) : Ev (ev L xs mdX3_addGuardToWays 0 [.ref 51, .ref (14 + g), .null, .null, .null] [] h) (fun z => ∃ h', z = .inl (none, h') ∧ Fr (fun i => i = 53) h h' ∧ SC h' lk P (fun T => newV lk (okD r g) (dD r g) V T P)) := by
  have P8 := R.P8
  have G10 := R.G10
  have g10 : g < 10 := by omega
  have cl := cnt_le (lk := lk) P
  have C8 : cnt lk P ≤ 8 := by omega
  have N2 : 2 ^ cnt lk P ≤ 256 := Nat.pow_le_pow_right (n := 2) (by omega) C8
  have N1 : 1 ≤ 2 ^ cnt lk P := Nat.two_pow_pos _
  have ms := m_sh1 (i := cnt lk P) (by omega)
  have ki : ∀ {h9 : AH}, Fr (fun i => i = 53) h h9 → hK h9 (14 + g) = 0 ∧ hI h9 0 (14 + g) = r (93 + 9 * g) ∧ hI h9 1 (14 + g) = r (94 + 9 * g) := by
    intro h9 f
    refine ⟨by rw [f.ki]; exact LS_go hl g10, ?_, ?_⟩
    · rw [f.fi (by omega)]; exact R.g0 hg
    · rw [f.fi (by omega)]; exact R.g1 hg
  have pc0 : hI h 49 51 = nI (cnt lk P) := pc.1
  simp (disch := first | with_reducible assumption | exact cat_int | exact cat_ref | exact cat_null | exact cat_ra | exact Nat.le_of_ble_eq_true rfl | (simp (disch := omega) only [hK_sI, hR_sI, hN_sI, hA_sI, hQ_sI, hL_sI, hn_sI, hK_sR, hI_sR, hN_sR, hA_sR, hQ_sR, hL_sR, hn_sR, hK_sA, hI_sA, hR_sA, hN_sA, hQ_sA, hL_sA, hn_sA, hK_sQ, hI_sQ, hR_sQ, hN_sQ, hA_sQ, hL_sQ, hn_sQ, hK_sL, hI_sL, hR_sL, hN_sL, hA_sL, hQ_sL, hn_sL, hK_cpA, hI_cpA, hR_cpA, hN_cpA, hQ_cpA, hL_cpA, hn_cpA, hK_bump, hI_bump, hR_bump, hN_bump, hA_bump, hQ_bump, hL_bump, hn_bump, hI_sI, hR_sR, hA_sA, hQ_sQ, hL_sL, hA_cpA, isS, cat_int, cat_ref, cat_null, cat_ra, wds_nil, wds_int, wds_ref, wds_long, wds_ra, nz5, nz7, nz2, idxN, inAN, if_true, if_false, b00, b11, b01, eq_self, true_or, or_true, false_or, or_false, true_and, and_true, false_and, and_false, not_true, not_false_eq_true, Y_k51 hy, pc0, ms]; done) | omega) only [iX3_addGuardToWays_0, iX3_addGuardToWays_1, iX3_addGuardToWays_2, iX3_addGuardToWays_5, iX3_addGuardToWays_6, iX3_addGuardToWays_7, iX3_addGuardToWays_8, ↓reduceIte, ofN, reduceCtorEq, Bool.false_eq_true, Nat.reduceAdd, Nat.reduceMul, Nat.reduceEqDiff, Nat.reduceLeDiff, Nat.reduceLT, le_nlt, ite_not, Nat.lt_irrefl, Decidable.not_not, kn1, kn0, knite, isS, getS, cat_int, cat_ref, cat_null, cat_ra, wds_nil, wds_int, wds_ref, wds_long, wds_ra, b0, b01, b00, b11, b10, if_true, if_false, ite_self, not_true, not_false_eq_true, true_or, or_true, false_or, or_false, true_and, and_true, false_and, and_false, eq_self, idxN, inAN, nI_add, nI_mul, nI_sub, nz5, nz7, nz2, nI_ltN, Nat.add_zero, Nat.zero_add, hK_sI, hR_sI, hN_sI, hA_sI, hQ_sI, hL_sI, hn_sI, hK_sR, hI_sR, hN_sR, hA_sR, hQ_sR, hL_sR, hn_sR, hK_sA, hI_sA, hR_sA, hN_sA, hQ_sA, hL_sA, hn_sA, hK_sQ, hI_sQ, hR_sQ, hN_sQ, hA_sQ, hL_sQ, hn_sQ, hK_sL, hI_sL, hR_sL, hN_sL, hA_sL, hQ_sL, hn_sL, hK_cpA, hI_cpA, hR_cpA, hN_cpA, hQ_cpA, hL_cpA, hn_cpA, hK_bump, hI_bump, hR_bump, hN_bump, hA_bump, hQ_bump, hL_bump, hn_bump, hI_sI, hR_sR, hA_sA, hQ_sQ, hL_sL, hA_cpA, Y_k51 hy, pc0, ms]
  have e0 : nI (2 ^ cnt lk P - 1) = nI (2 ^ cnt lk P - 1 - 0) := by rw [Nat.sub_zero]
  rw [e0]
  refine Ev_loop (n := 2 ^ cnt lk P - 1) (fun i Ls h' => (∃ v3 v4, Ls = [.ref 51, .ref (14 + g), .int (nI (2 ^ cnt lk P - 1 - i)), v3, v4] ∧ v3.category = 1) ∧ Fr (fun i => i = 53) h h' ∧ ∀ c, c < 2 ^ cnt lk P → hA h' 53 c = nI (cl9 (if 2 ^ cnt lk P - 1 - i < c then newV lk (okD r g) (dD r g) V (phi lk P c) P else V (phi lk P c)))) ?_ ?_ (Nat.zero_le _) ⟨⟨_, _, rfl, cat_null⟩, Fr.rfl, fun c hc => ?_⟩
  · rintro i Ls h' hi ⟨⟨v3, v4, rfl, hv3⟩, f, st⟩ k
    have S0 : 0 < 2 ^ cnt lk P - 1 - i := by omega
    have Sn : 2 ^ cnt lk P - 1 - (i + 1) = 2 ^ cnt lk P - 1 - i - 1 := by omega
    rw [Sn] at k
    have SN : 2 ^ cnt lk P - 1 - i < 2 ^ cnt lk P := by omega
    generalize 2 ^ cnt lk P - 1 - i = S at *
    have st1 := st S SN
    rw [if_neg (by omega)] at st1
    rw [iX3_addGuardToWays_9]
    simp (disch := first | with_reducible assumption | exact cat_int | exact cat_ref | exact cat_null | exact cat_ra | exact Nat.le_of_ble_eq_true rfl | (simp (disch := omega) only [hK_sI, hR_sI, hN_sI, hA_sI, hQ_sI, hL_sI, hn_sI, hK_sR, hI_sR, hN_sR, hA_sR, hQ_sR, hL_sR, hn_sR, hK_sA, hI_sA, hR_sA, hN_sA, hQ_sA, hL_sA, hn_sA, hK_sQ, hI_sQ, hR_sQ, hN_sQ, hA_sQ, hL_sQ, hn_sQ, hK_sL, hI_sL, hR_sL, hN_sL, hA_sL, hQ_sL, hn_sL, hK_cpA, hI_cpA, hR_cpA, hN_cpA, hQ_cpA, hL_cpA, hn_cpA, hK_bump, hI_bump, hR_bump, hN_bump, hA_bump, hQ_bump, hL_bump, hn_bump, hI_sI, hR_sR, hA_sA, hQ_sQ, hL_sL, hA_cpA, isS, cat_int, cat_ref, cat_null, cat_ra, wds_nil, wds_int, wds_ref, wds_long, wds_ra, nz5, nz7, nz2, idxN, inAN, if_true, if_false, b00, b11, b01, eq_self, true_or, or_true, false_or, or_false, true_and, and_true, false_and, and_false, not_true, not_false_eq_true, S0]; done) | omega) only [iX3_addGuardToWays_10, iX3_addGuardToWays_13, iX3_addGuardToWays_14, ↓reduceIte, ofN, reduceCtorEq, Bool.false_eq_true, Nat.reduceAdd, Nat.reduceMul, Nat.reduceEqDiff, Nat.reduceLeDiff, Nat.reduceLT, le_nlt, ite_not, Nat.lt_irrefl, Decidable.not_not, kn1, kn0, knite, isS, getS, cat_int, cat_ref, cat_null, cat_ra, wds_nil, wds_int, wds_ref, wds_long, wds_ra, b0, b01, b00, b11, b10, if_true, if_false, ite_self, not_true, not_false_eq_true, true_or, or_true, false_or, or_false, true_and, and_true, false_and, and_false, eq_self, idxN, inAN, nI_add, nI_mul, nI_sub, nz5, nz7, nz2, nI_ltN, Nat.add_zero, Nat.zero_add, hK_sI, hR_sI, hN_sI, hA_sI, hQ_sI, hL_sI, hn_sI, hK_sR, hI_sR, hN_sR, hA_sR, hQ_sR, hL_sR, hn_sR, hK_sA, hI_sA, hR_sA, hN_sA, hQ_sA, hL_sA, hn_sA, hK_sQ, hI_sQ, hR_sQ, hN_sQ, hA_sQ, hL_sQ, hn_sQ, hK_sL, hI_sL, hR_sL, hN_sL, hA_sL, hQ_sL, hn_sL, hK_cpA, hI_cpA, hR_cpA, hN_cpA, hQ_cpA, hL_cpA, hn_cpA, hK_bump, hI_bump, hR_bump, hN_bump, hA_bump, hQ_bump, hL_bump, hn_bump, hI_sI, hR_sR, hA_sA, hQ_sQ, hL_sL, hA_cpA, S0]
    refine Ev_loop (n := cnt lk P) (fun q Ls h9 => (∃ v4, Ls = [.ref 51, .ref (14 + g), .int (nI S), .int (nI q), v4]) ∧ Fr (fun i => i = 53) h' h9 ∧ (∀ c, c < 2 ^ cnt lk P → ¬ c = S → hA h9 53 c = hA h' 53 c) ∧ ∃ a, hA h9 53 S = nI (cl9 a) ∧ IsM (CdC lk (okD r g) (dD r g) P V S q) a) ?_ ?_ (Nat.zero_le _) ⟨⟨_, rfl⟩, Fr.rfl, fun c _ _ => rfl, _, st1, CdC_0⟩
    · rintro q Ls h9 hq ⟨⟨v4, rfl⟩, f9, oth, a, ea, hm⟩ kk
      have fa := f.tr f9
      have y9 := fa.y hy
      obtain ⟨k1, k2, k3⟩ := ki fa
      have pc9 := pc.fr fa
      obtain ⟨p1, p2, p3⟩ := posF_ok hq
      have pl := pc9.2 q hq
      have dq := dD_eq2 ok hg p1
      have dl : dD r g (posF lk P q) ≤ 99 := dD_le
      have q8 : q < 8 := by omega
      have bit := m_in (s := S) (i := q) (by omega) (by omega)
      have clr := m_clr (s := S) (i := q) (by omega) (by omega)
      have dS : S &&& (1023 ^^^ 2 ^ q) = del S q := rfl
      rw [dS] at clr
      have dle : del S q ≤ S := del_le
      have bd := CdC_bd hV (fun p => dD_le) hm
      have pc1 : hI h9 49 51 = nI (cnt lk P) := pc9.1
      have ad : dst (r (93 + 9 * g)) (r (21 + 9 * posF lk P q)) = nI (dD r g (posF lk P q)) := dq
      have S256 : S < 256 := by omega
      rw [iX3_addGuardToWays_15]
      cases cb : S.testBit q with
      | false =>
        rw [cb] at bit
        have bit' : nI S >>> (nI q &&& nI 31) &&& nI 1 = nI 0 := bit
        simp (disch := first | with_reducible assumption | exact cat_int | exact cat_ref | exact cat_null | exact cat_ra | exact Nat.le_of_ble_eq_true rfl | (simp (disch := omega) only [hK_sI, hR_sI, hN_sI, hA_sI, hQ_sI, hL_sI, hn_sI, hK_sR, hI_sR, hN_sR, hA_sR, hQ_sR, hL_sR, hn_sR, hK_sA, hI_sA, hR_sA, hN_sA, hQ_sA, hL_sA, hn_sA, hK_sQ, hI_sQ, hR_sQ, hN_sQ, hA_sQ, hL_sQ, hn_sQ, hK_sL, hI_sL, hR_sL, hN_sL, hA_sL, hQ_sL, hn_sL, hK_cpA, hI_cpA, hR_cpA, hN_cpA, hQ_cpA, hL_cpA, hn_cpA, hK_bump, hI_bump, hR_bump, hN_bump, hA_bump, hQ_bump, hL_bump, hn_bump, hI_sI, hR_sR, hA_sA, hQ_sQ, hL_sL, hA_cpA, isS, cat_int, cat_ref, cat_null, cat_ra, wds_nil, wds_int, wds_ref, wds_long, wds_ra, nz5, nz7, nz2, idxN, inAN, if_true, if_false, b00, b11, b01, eq_self, true_or, or_true, false_or, or_false, true_and, and_true, false_and, and_false, not_true, not_false_eq_true, Y_k51 y9, pc1, hq, q8, Y_r48 y9, Y_k52 y9, Y_n52 y9, pl, k1, k2, k3, s_dist, ad, s_isIn, bit']; done) | omega) only [iX3_addGuardToWays_16, iX3_addGuardToWays_17, iX3_addGuardToWays_20, iX3_addGuardToWays_23, iX3_addGuardToWays_24, iX3_addGuardToWays_25, iX3_addGuardToWays_28, iX3_addGuardToWays_29, iX3_addGuardToWays_30, iX3_addGuardToWays_33, iX3_addGuardToWays_35, iX3_addGuardToWays_36, iX3_addGuardToWays_37, iX3_addGuardToWays_40, iX3_addGuardToWays_43, iX3_addGuardToWays_45, iX3_addGuardToWays_46, iX3_addGuardToWays_49, iX3_addGuardToWays_52, iX3_addGuardToWays_53, iX3_addGuardToWays_56, iX3_addGuardToWays_57, iX3_addGuardToWays_58, iX3_addGuardToWays_61, iX3_addGuardToWays_62, iX3_addGuardToWays_63, iX3_addGuardToWays_64, iX3_addGuardToWays_67, iX3_addGuardToWays_68, iX3_addGuardToWays_69, iX3_addGuardToWays_70, iX3_addGuardToWays_71, iX3_addGuardToWays_72, iX3_addGuardToWays_73, iX3_addGuardToWays_74, iX3_addGuardToWays_75, iX3_addGuardToWays_77, iX3_addGuardToWays_78, iX3_addGuardToWays_81, iX3_addGuardToWays_82, iX3_addGuardToWays_85, ↓reduceIte, ofN, reduceCtorEq, Bool.false_eq_true, Nat.reduceAdd, Nat.reduceMul, Nat.reduceEqDiff, Nat.reduceLeDiff, Nat.reduceLT, le_nlt, ite_not, Nat.lt_irrefl, Decidable.not_not, kn1, kn0, knite, isS, getS, cat_int, cat_ref, cat_null, cat_ra, wds_nil, wds_int, wds_ref, wds_long, wds_ra, b0, b01, b00, b11, b10, if_true, if_false, ite_self, not_true, not_false_eq_true, true_or, or_true, false_or, or_false, true_and, and_true, false_and, and_false, eq_self, idxN, inAN, nI_add, nI_mul, nI_sub, nz5, nz7, nz2, nI_ltN, Nat.add_zero, Nat.zero_add, hK_sI, hR_sI, hN_sI, hA_sI, hQ_sI, hL_sI, hn_sI, hK_sR, hI_sR, hN_sR, hA_sR, hQ_sR, hL_sR, hn_sR, hK_sA, hI_sA, hR_sA, hN_sA, hQ_sA, hL_sA, hn_sA, hK_sQ, hI_sQ, hR_sQ, hN_sQ, hA_sQ, hL_sQ, hn_sQ, hK_sL, hI_sL, hR_sL, hN_sL, hA_sL, hQ_sL, hn_sL, hK_cpA, hI_cpA, hR_cpA, hN_cpA, hQ_cpA, hL_cpA, hn_cpA, hK_bump, hI_bump, hR_bump, hN_bump, hA_bump, hQ_bump, hL_bump, hn_bump, hI_sI, hR_sR, hA_sA, hQ_sQ, hL_sL, hA_cpA, Y_k51 y9, pc1, hq, q8, Y_r48 y9, Y_k52 y9, Y_n52 y9, pl, k1, k2, k3, s_dist, ad, s_isIn, bit']
        exact kk _ _ ⟨⟨_, rfl⟩, f9, oth, a, ea, CdC_n (fun z => by rw [cb] at z; cases z.1) hm⟩
      | true =>
        rw [cb] at bit
        have bit' : nI S >>> (nI q &&& nI 31) &&& nI 1 = nI 1 := bit
        by_cases cr : r (94 + 9 * g) < nI (dD r g (posF lk P q))
        · have okf : ¬ okD r g (posF lk P q) = true := by unfold okD; rw [dq]; simp [cr]
          simp (disch := first | with_reducible assumption | exact cat_int | exact cat_ref | exact cat_null | exact cat_ra | exact Nat.le_of_ble_eq_true rfl | (simp (disch := omega) only [hK_sI, hR_sI, hN_sI, hA_sI, hQ_sI, hL_sI, hn_sI, hK_sR, hI_sR, hN_sR, hA_sR, hQ_sR, hL_sR, hn_sR, hK_sA, hI_sA, hR_sA, hN_sA, hQ_sA, hL_sA, hn_sA, hK_sQ, hI_sQ, hR_sQ, hN_sQ, hA_sQ, hL_sQ, hn_sQ, hK_sL, hI_sL, hR_sL, hN_sL, hA_sL, hQ_sL, hn_sL, hK_cpA, hI_cpA, hR_cpA, hN_cpA, hQ_cpA, hL_cpA, hn_cpA, hK_bump, hI_bump, hR_bump, hN_bump, hA_bump, hQ_bump, hL_bump, hn_bump, hI_sI, hR_sR, hA_sA, hQ_sQ, hL_sL, hA_cpA, isS, cat_int, cat_ref, cat_null, cat_ra, wds_nil, wds_int, wds_ref, wds_long, wds_ra, nz5, nz7, nz2, idxN, inAN, if_true, if_false, b00, b11, b01, eq_self, true_or, or_true, false_or, or_false, true_and, and_true, false_and, and_false, not_true, not_false_eq_true, Y_k51 y9, pc1, hq, q8, Y_r48 y9, Y_k52 y9, Y_n52 y9, pl, k1, k2, k3, s_dist, ad, s_isIn, bit', cr]; done) | omega) only [iX3_addGuardToWays_16, iX3_addGuardToWays_17, iX3_addGuardToWays_20, iX3_addGuardToWays_23, iX3_addGuardToWays_24, iX3_addGuardToWays_25, iX3_addGuardToWays_28, iX3_addGuardToWays_29, iX3_addGuardToWays_30, iX3_addGuardToWays_33, iX3_addGuardToWays_35, iX3_addGuardToWays_36, iX3_addGuardToWays_37, iX3_addGuardToWays_40, iX3_addGuardToWays_43, iX3_addGuardToWays_45, iX3_addGuardToWays_46, iX3_addGuardToWays_49, iX3_addGuardToWays_52, iX3_addGuardToWays_53, iX3_addGuardToWays_56, iX3_addGuardToWays_57, iX3_addGuardToWays_58, iX3_addGuardToWays_61, iX3_addGuardToWays_62, iX3_addGuardToWays_63, iX3_addGuardToWays_64, iX3_addGuardToWays_67, iX3_addGuardToWays_68, iX3_addGuardToWays_69, iX3_addGuardToWays_70, iX3_addGuardToWays_71, iX3_addGuardToWays_72, iX3_addGuardToWays_73, iX3_addGuardToWays_74, iX3_addGuardToWays_75, iX3_addGuardToWays_77, iX3_addGuardToWays_78, iX3_addGuardToWays_81, iX3_addGuardToWays_82, iX3_addGuardToWays_85, ↓reduceIte, ofN, reduceCtorEq, Bool.false_eq_true, Nat.reduceAdd, Nat.reduceMul, Nat.reduceEqDiff, Nat.reduceLeDiff, Nat.reduceLT, le_nlt, ite_not, Nat.lt_irrefl, Decidable.not_not, kn1, kn0, knite, isS, getS, cat_int, cat_ref, cat_null, cat_ra, wds_nil, wds_int, wds_ref, wds_long, wds_ra, b0, b01, b00, b11, b10, if_true, if_false, ite_self, not_true, not_false_eq_true, true_or, or_true, false_or, or_false, true_and, and_true, false_and, and_false, eq_self, idxN, inAN, nI_add, nI_mul, nI_sub, nz5, nz7, nz2, nI_ltN, Nat.add_zero, Nat.zero_add, hK_sI, hR_sI, hN_sI, hA_sI, hQ_sI, hL_sI, hn_sI, hK_sR, hI_sR, hN_sR, hA_sR, hQ_sR, hL_sR, hn_sR, hK_sA, hI_sA, hR_sA, hN_sA, hQ_sA, hL_sA, hn_sA, hK_sQ, hI_sQ, hR_sQ, hN_sQ, hA_sQ, hL_sQ, hn_sQ, hK_sL, hI_sL, hR_sL, hN_sL, hA_sL, hQ_sL, hn_sL, hK_cpA, hI_cpA, hR_cpA, hN_cpA, hQ_cpA, hL_cpA, hn_cpA, hK_bump, hI_bump, hR_bump, hN_bump, hA_bump, hQ_bump, hL_bump, hn_bump, hI_sI, hR_sR, hA_sA, hQ_sQ, hL_sL, hA_cpA, Y_k51 y9, pc1, hq, q8, Y_r48 y9, Y_k52 y9, Y_n52 y9, pl, k1, k2, k3, s_dist, ad, s_isIn, bit', cr]
          exact kk _ _ ⟨⟨_, rfl⟩, f9, oth, a, ea, CdC_n (fun z => okf z.2) hm⟩
        · have okt : okD r g (posF lk P q) = true := by unfold okD; rw [dq]; simp [cr]
          have dlt : del S q < S := del_lt (by omega) cb
          have so := (oth (del S q) (by omega) (by omega)).trans (st (del S q) (by omega))
          rw [if_neg (by omega)] at so
          have d256 : del S q < 256 := by omega
          have cm := cl_min bd (hV (phi lk P (del S q))) dl
          have b1 : cl9 (V (phi lk P (del S q))) ≤ 1000000 := by unfold cl9; split; omega; rcases hV (phi lk P (del S q)) with z | z <;> omega
          have b2 : cl9 a ≤ 1000000 := by unfold cl9; split <;> omega
          have cm2 : (if nI (cl9 (V (phi lk P (del S q))) + dD r g (posF lk P q)) < nI (cl9 a) then nI (cl9 (V (phi lk P (del S q))) + dD r g (posF lk P q)) else nI (cl9 a)) = nI (cl9 (min a (V (phi lk P (del S q)) + dD r g (posF lk P q)))) := by
            have g1 := nI_ltN (a := cl9 (V (phi lk P (del S q))) + dD r g (posF lk P q)) (b := cl9 a) (by omega) (by omega)
            simp only [g1]
            rw [← cm]
            split <;> rfl
          have pre : ev L xs mdX3_addGuardToWays 15 [.ref 51, .ref (14 + g), .int (nI S), .int (nI q), v4] [] h9 = ev L xs mdX3_addGuardToWays 15 [.ref 51, .ref (14 + g), .int (nI S), .int (nI (q + 1)), .int (nI (dD r g (posF lk P q)))] [] (sA h9 53 S (if nI (cl9 (V (phi lk P (del S q))) + dD r g (posF lk P q)) < nI (cl9 a) then nI (cl9 (V (phi lk P (del S q))) + dD r g (posF lk P q)) else nI (cl9 a))) := by
            generalize hx : cl9 (V (phi lk P (del S q))) + dD r g (posF lk P q) = x9
            rw [iX3_addGuardToWays_15]
            by_cases cx : nI x9 < nI (cl9 a)
            · rw [if_pos cx]
              simp (disch := first | with_reducible assumption | exact cat_int | exact cat_ref | exact cat_null | exact cat_ra | exact Nat.le_of_ble_eq_true rfl | (simp (disch := omega) only [hK_sI, hR_sI, hN_sI, hA_sI, hQ_sI, hL_sI, hn_sI, hK_sR, hI_sR, hN_sR, hA_sR, hQ_sR, hL_sR, hn_sR, hK_sA, hI_sA, hR_sA, hN_sA, hQ_sA, hL_sA, hn_sA, hK_sQ, hI_sQ, hR_sQ, hN_sQ, hA_sQ, hL_sQ, hn_sQ, hK_sL, hI_sL, hR_sL, hN_sL, hA_sL, hQ_sL, hn_sL, hK_cpA, hI_cpA, hR_cpA, hN_cpA, hQ_cpA, hL_cpA, hn_cpA, hK_bump, hI_bump, hR_bump, hN_bump, hA_bump, hQ_bump, hL_bump, hn_bump, hI_sI, hR_sR, hA_sA, hQ_sQ, hL_sL, hA_cpA, isS, cat_int, cat_ref, cat_null, cat_ra, wds_nil, wds_int, wds_ref, wds_long, wds_ra, nz5, nz7, nz2, idxN, inAN, if_true, if_false, b00, b11, b01, eq_self, true_or, or_true, false_or, or_false, true_and, and_true, false_and, and_false, not_true, not_false_eq_true, Y_k51 y9, pc1, hq, q8, Y_r48 y9, Y_k52 y9, Y_n52 y9, pl, k1, k2, k3, s_dist, ad, s_isIn, bit', cr, Y_r50 y9, Y_k53 y9, Y_n53 y9, S256, d256, ea, clr, so, hx, cx]; done) | omega) only [iX3_addGuardToWays_16, iX3_addGuardToWays_17, iX3_addGuardToWays_20, iX3_addGuardToWays_23, iX3_addGuardToWays_24, iX3_addGuardToWays_25, iX3_addGuardToWays_28, iX3_addGuardToWays_29, iX3_addGuardToWays_30, iX3_addGuardToWays_33, iX3_addGuardToWays_35, iX3_addGuardToWays_36, iX3_addGuardToWays_37, iX3_addGuardToWays_40, iX3_addGuardToWays_43, iX3_addGuardToWays_45, iX3_addGuardToWays_46, iX3_addGuardToWays_49, iX3_addGuardToWays_52, iX3_addGuardToWays_53, iX3_addGuardToWays_56, iX3_addGuardToWays_57, iX3_addGuardToWays_58, iX3_addGuardToWays_61, iX3_addGuardToWays_62, iX3_addGuardToWays_63, iX3_addGuardToWays_64, iX3_addGuardToWays_67, iX3_addGuardToWays_68, iX3_addGuardToWays_69, iX3_addGuardToWays_70, iX3_addGuardToWays_71, iX3_addGuardToWays_72, iX3_addGuardToWays_73, iX3_addGuardToWays_74, iX3_addGuardToWays_75, iX3_addGuardToWays_77, iX3_addGuardToWays_78, iX3_addGuardToWays_81, iX3_addGuardToWays_82, iX3_addGuardToWays_85, ↓reduceIte, ofN, reduceCtorEq, Bool.false_eq_true, Nat.reduceAdd, Nat.reduceMul, Nat.reduceEqDiff, Nat.reduceLeDiff, Nat.reduceLT, le_nlt, ite_not, Nat.lt_irrefl, Decidable.not_not, kn1, kn0, knite, isS, getS, cat_int, cat_ref, cat_null, cat_ra, wds_nil, wds_int, wds_ref, wds_long, wds_ra, b0, b01, b00, b11, b10, if_true, if_false, ite_self, not_true, not_false_eq_true, true_or, or_true, false_or, or_false, true_and, and_true, false_and, and_false, eq_self, idxN, inAN, nI_add, nI_mul, nI_sub, nz5, nz7, nz2, nI_ltN, Nat.add_zero, Nat.zero_add, hK_sI, hR_sI, hN_sI, hA_sI, hQ_sI, hL_sI, hn_sI, hK_sR, hI_sR, hN_sR, hA_sR, hQ_sR, hL_sR, hn_sR, hK_sA, hI_sA, hR_sA, hN_sA, hQ_sA, hL_sA, hn_sA, hK_sQ, hI_sQ, hR_sQ, hN_sQ, hA_sQ, hL_sQ, hn_sQ, hK_sL, hI_sL, hR_sL, hN_sL, hA_sL, hQ_sL, hn_sL, hK_cpA, hI_cpA, hR_cpA, hN_cpA, hQ_cpA, hL_cpA, hn_cpA, hK_bump, hI_bump, hR_bump, hN_bump, hA_bump, hQ_bump, hL_bump, hn_bump, hI_sI, hR_sR, hA_sA, hQ_sQ, hL_sL, hA_cpA, Y_k51 y9, pc1, hq, q8, Y_r48 y9, Y_k52 y9, Y_n52 y9, pl, k1, k2, k3, s_dist, ad, s_isIn, bit', cr, Y_r50 y9, Y_k53 y9, Y_n53 y9, S256, d256, ea, clr, so, hx, cx]
            · rw [if_neg cx]
              simp (disch := first | with_reducible assumption | exact cat_int | exact cat_ref | exact cat_null | exact cat_ra | exact Nat.le_of_ble_eq_true rfl | (simp (disch := omega) only [hK_sI, hR_sI, hN_sI, hA_sI, hQ_sI, hL_sI, hn_sI, hK_sR, hI_sR, hN_sR, hA_sR, hQ_sR, hL_sR, hn_sR, hK_sA, hI_sA, hR_sA, hN_sA, hQ_sA, hL_sA, hn_sA, hK_sQ, hI_sQ, hR_sQ, hN_sQ, hA_sQ, hL_sQ, hn_sQ, hK_sL, hI_sL, hR_sL, hN_sL, hA_sL, hQ_sL, hn_sL, hK_cpA, hI_cpA, hR_cpA, hN_cpA, hQ_cpA, hL_cpA, hn_cpA, hK_bump, hI_bump, hR_bump, hN_bump, hA_bump, hQ_bump, hL_bump, hn_bump, hI_sI, hR_sR, hA_sA, hQ_sQ, hL_sL, hA_cpA, isS, cat_int, cat_ref, cat_null, cat_ra, wds_nil, wds_int, wds_ref, wds_long, wds_ra, nz5, nz7, nz2, idxN, inAN, if_true, if_false, b00, b11, b01, eq_self, true_or, or_true, false_or, or_false, true_and, and_true, false_and, and_false, not_true, not_false_eq_true, Y_k51 y9, pc1, hq, q8, Y_r48 y9, Y_k52 y9, Y_n52 y9, pl, k1, k2, k3, s_dist, ad, s_isIn, bit', cr, Y_r50 y9, Y_k53 y9, Y_n53 y9, S256, d256, ea, clr, so, hx, cx]; done) | omega) only [iX3_addGuardToWays_16, iX3_addGuardToWays_17, iX3_addGuardToWays_20, iX3_addGuardToWays_23, iX3_addGuardToWays_24, iX3_addGuardToWays_25, iX3_addGuardToWays_28, iX3_addGuardToWays_29, iX3_addGuardToWays_30, iX3_addGuardToWays_33, iX3_addGuardToWays_35, iX3_addGuardToWays_36, iX3_addGuardToWays_37, iX3_addGuardToWays_40, iX3_addGuardToWays_43, iX3_addGuardToWays_45, iX3_addGuardToWays_46, iX3_addGuardToWays_49, iX3_addGuardToWays_52, iX3_addGuardToWays_53, iX3_addGuardToWays_56, iX3_addGuardToWays_57, iX3_addGuardToWays_58, iX3_addGuardToWays_61, iX3_addGuardToWays_62, iX3_addGuardToWays_63, iX3_addGuardToWays_64, iX3_addGuardToWays_67, iX3_addGuardToWays_68, iX3_addGuardToWays_69, iX3_addGuardToWays_70, iX3_addGuardToWays_71, iX3_addGuardToWays_72, iX3_addGuardToWays_73, iX3_addGuardToWays_74, iX3_addGuardToWays_75, iX3_addGuardToWays_77, iX3_addGuardToWays_78, iX3_addGuardToWays_81, iX3_addGuardToWays_82, iX3_addGuardToWays_85, ↓reduceIte, ofN, reduceCtorEq, Bool.false_eq_true, Nat.reduceAdd, Nat.reduceMul, Nat.reduceEqDiff, Nat.reduceLeDiff, Nat.reduceLT, le_nlt, ite_not, Nat.lt_irrefl, Decidable.not_not, kn1, kn0, knite, isS, getS, cat_int, cat_ref, cat_null, cat_ra, wds_nil, wds_int, wds_ref, wds_long, wds_ra, b0, b01, b00, b11, b10, if_true, if_false, ite_self, not_true, not_false_eq_true, true_or, or_true, false_or, or_false, true_and, and_true, false_and, and_false, eq_self, idxN, inAN, nI_add, nI_mul, nI_sub, nz5, nz7, nz2, nI_ltN, Nat.add_zero, Nat.zero_add, hK_sI, hR_sI, hN_sI, hA_sI, hQ_sI, hL_sI, hn_sI, hK_sR, hI_sR, hN_sR, hA_sR, hQ_sR, hL_sR, hn_sR, hK_sA, hI_sA, hR_sA, hN_sA, hQ_sA, hL_sA, hn_sA, hK_sQ, hI_sQ, hR_sQ, hN_sQ, hA_sQ, hL_sQ, hn_sQ, hK_sL, hI_sL, hR_sL, hN_sL, hA_sL, hQ_sL, hn_sL, hK_cpA, hI_cpA, hR_cpA, hN_cpA, hQ_cpA, hL_cpA, hn_cpA, hK_bump, hI_bump, hR_bump, hN_bump, hA_bump, hQ_bump, hL_bump, hn_bump, hI_sI, hR_sR, hA_sA, hQ_sQ, hL_sL, hA_cpA, Y_k51 y9, pc1, hq, q8, Y_r48 y9, Y_k52 y9, Y_n52 y9, pl, k1, k2, k3, s_dist, ad, s_isIn, bit', cr, Y_r50 y9, Y_k53 y9, Y_n53 y9, S256, d256, ea, clr, so, hx, cx]
          rw [← iX3_addGuardToWays_15, pre, cm2]
          refine kk _ _ ⟨⟨_, rfl⟩, Fr.wA (S := fun i => i = 53) f9 rfl, fun c hc hne => ?_, _, by rw [hA_sA, if_pos ⟨rfl, rfl⟩], CdC_y cb okt hm⟩
          rw [hA_sA, if_neg (fun z => hne z.2)]
          exact oth c hc hne
    · rintro Ls h9 ⟨⟨v4, rfl⟩, f9, oth, a, ea, hm⟩
      have fa := f.tr f9
      have y9 := fa.y hy
      have pc1 : hI h9 49 51 = nI (cnt lk P) := (pc.fr fa).1
      have S1 : nI S + -1 = nI (S - 1) := nI_m1 (by omega)
      rw [iX3_addGuardToWays_15]
      simp (disch := first | with_reducible assumption | exact cat_int | exact cat_ref | exact cat_null | exact cat_ra | exact Nat.le_of_ble_eq_true rfl | (simp (disch := omega) only [hK_sI, hR_sI, hN_sI, hA_sI, hQ_sI, hL_sI, hn_sI, hK_sR, hI_sR, hN_sR, hA_sR, hQ_sR, hL_sR, hn_sR, hK_sA, hI_sA, hR_sA, hN_sA, hQ_sA, hL_sA, hn_sA, hK_sQ, hI_sQ, hR_sQ, hN_sQ, hA_sQ, hL_sQ, hn_sQ, hK_sL, hI_sL, hR_sL, hN_sL, hA_sL, hQ_sL, hn_sL, hK_cpA, hI_cpA, hR_cpA, hN_cpA, hQ_cpA, hL_cpA, hn_cpA, hK_bump, hI_bump, hR_bump, hN_bump, hA_bump, hQ_bump, hL_bump, hn_bump, hI_sI, hR_sR, hA_sA, hQ_sQ, hL_sL, hA_cpA, isS, cat_int, cat_ref, cat_null, cat_ra, wds_nil, wds_int, wds_ref, wds_long, wds_ra, nz5, nz7, nz2, idxN, inAN, if_true, if_false, b00, b11, b01, eq_self, true_or, or_true, false_or, or_false, true_and, and_true, false_and, and_false, not_true, not_false_eq_true, Y_k51 y9, pc1, S1]; done) | omega) only [iX3_addGuardToWays_16, iX3_addGuardToWays_17, iX3_addGuardToWays_20, iX3_addGuardToWays_88, iX3_addGuardToWays_91, ↓reduceIte, ofN, reduceCtorEq, Bool.false_eq_true, Nat.reduceAdd, Nat.reduceMul, Nat.reduceEqDiff, Nat.reduceLeDiff, Nat.reduceLT, le_nlt, ite_not, Nat.lt_irrefl, Decidable.not_not, kn1, kn0, knite, isS, getS, cat_int, cat_ref, cat_null, cat_ra, wds_nil, wds_int, wds_ref, wds_long, wds_ra, b0, b01, b00, b11, b10, if_true, if_false, ite_self, not_true, not_false_eq_true, true_or, or_true, false_or, or_false, true_and, and_true, false_and, and_false, eq_self, idxN, inAN, nI_add, nI_mul, nI_sub, nz5, nz7, nz2, nI_ltN, Nat.add_zero, Nat.zero_add, hK_sI, hR_sI, hN_sI, hA_sI, hQ_sI, hL_sI, hn_sI, hK_sR, hI_sR, hN_sR, hA_sR, hQ_sR, hL_sR, hn_sR, hK_sA, hI_sA, hR_sA, hN_sA, hQ_sA, hL_sA, hn_sA, hK_sQ, hI_sQ, hR_sQ, hN_sQ, hA_sQ, hL_sQ, hn_sQ, hK_sL, hI_sL, hR_sL, hN_sL, hA_sL, hQ_sL, hn_sL, hK_cpA, hI_cpA, hR_cpA, hN_cpA, hQ_cpA, hL_cpA, hn_cpA, hK_bump, hI_bump, hR_bump, hN_bump, hA_bump, hQ_bump, hL_bump, hn_bump, hI_sI, hR_sR, hA_sA, hQ_sQ, hL_sL, hA_cpA, Y_k51 y9, pc1, S1]
      refine k _ _ ⟨⟨_, _, rfl, cat_int⟩, fa, fun c hc => ?_⟩
      by_cases cS : c = S
      · rw [cS, if_pos (by omega), ea, CdC_end P8 (by omega) hm]
      · rw [oth c hc cS, st c hc]
        by_cases z : S < c
        · rw [if_pos z, if_pos (by omega)]
        · rw [if_neg z, if_neg (by omega)]
  · rintro Ls h' ⟨⟨v3, v4, rfl, hv3⟩, f, st⟩
    have z0 : 2 ^ cnt lk P - 1 - (2 ^ cnt lk P - 1) = 0 := by omega
    rw [z0] at st
    rw [iX3_addGuardToWays_9, z0]
    simp (disch := first | with_reducible assumption | exact cat_int | exact cat_ref | exact cat_null | exact cat_ra | exact Nat.le_of_ble_eq_true rfl | (simp (disch := omega) only [hK_sI, hR_sI, hN_sI, hA_sI, hQ_sI, hL_sI, hn_sI, hK_sR, hI_sR, hN_sR, hA_sR, hQ_sR, hL_sR, hn_sR, hK_sA, hI_sA, hR_sA, hN_sA, hQ_sA, hL_sA, hn_sA, hK_sQ, hI_sQ, hR_sQ, hN_sQ, hA_sQ, hL_sQ, hn_sQ, hK_sL, hI_sL, hR_sL, hN_sL, hA_sL, hQ_sL, hn_sL, hK_cpA, hI_cpA, hR_cpA, hN_cpA, hQ_cpA, hL_cpA, hn_cpA, hK_bump, hI_bump, hR_bump, hN_bump, hA_bump, hQ_bump, hL_bump, hn_bump, hI_sI, hR_sR, hA_sA, hQ_sQ, hL_sL, hA_cpA, isS, cat_int, cat_ref, cat_null, cat_ra, wds_nil, wds_int, wds_ref, wds_long, wds_ra, nz5, nz7, nz2, idxN, inAN, if_true, if_false, b00, b11, b01, eq_self, true_or, or_true, false_or, or_false, true_and, and_true, false_and, and_false, not_true, not_false_eq_true, Ev_some]; done) | omega) only [iX3_addGuardToWays_10, iX3_addGuardToWays_94, ↓reduceIte, ofN, reduceCtorEq, Bool.false_eq_true, Nat.reduceAdd, Nat.reduceMul, Nat.reduceEqDiff, Nat.reduceLeDiff, Nat.reduceLT, le_nlt, ite_not, Nat.lt_irrefl, Decidable.not_not, kn1, kn0, knite, isS, getS, cat_int, cat_ref, cat_null, cat_ra, wds_nil, wds_int, wds_ref, wds_long, wds_ra, b0, b01, b00, b11, b10, if_true, if_false, ite_self, not_true, not_false_eq_true, true_or, or_true, false_or, or_false, true_and, and_true, false_and, and_false, eq_self, idxN, inAN, nI_add, nI_mul, nI_sub, nz5, nz7, nz2, nI_ltN, Nat.add_zero, Nat.zero_add, hK_sI, hR_sI, hN_sI, hA_sI, hQ_sI, hL_sI, hn_sI, hK_sR, hI_sR, hN_sR, hA_sR, hQ_sR, hL_sR, hn_sR, hK_sA, hI_sA, hR_sA, hN_sA, hQ_sA, hL_sA, hn_sA, hK_sQ, hI_sQ, hR_sQ, hN_sQ, hA_sQ, hL_sQ, hn_sQ, hK_sL, hI_sL, hR_sL, hN_sL, hA_sL, hQ_sL, hn_sL, hK_cpA, hI_cpA, hR_cpA, hN_cpA, hQ_cpA, hL_cpA, hn_cpA, hK_bump, hI_bump, hR_bump, hN_bump, hA_bump, hQ_bump, hL_bump, hn_bump, hI_sI, hR_sR, hA_sA, hQ_sQ, hL_sL, hA_cpA, Ev_some]
    refine ⟨h', rfl, f, fun c hc => ?_⟩
    rw [st c hc]
    by_cases c0 : c = 0
    · subst c0
      rw [if_neg (by omega), phi_0, hV0]
      show nI (cl9 0) = nI (cl9 (newV lk (okD r g) (dD r g) V 0 P))
      rw [hV1]
    · rw [if_pos (by omega)]
  · rw [if_neg (by omega)]
    exact sc c hc
end
