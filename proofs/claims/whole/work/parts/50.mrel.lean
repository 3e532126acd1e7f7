/-! THE MODEL AS A WHOLE -/
def MR (h : AH) (s : SvT) (m : Nat) (sv : Nat → SvT) (tx : Rw) (len : Nat) : Prop := Mx h 152 s.1 s.2.1 s.2.2.1 s.2.2.2.1 s.2.2.2.2 none ∧ m ≤ 4 ∧ hI h 116 151 = nI m ∧ (∀ i, i < m → (∀ k, k < 183 → hA h 154 (183 * i + k) = (sv i).1 k) ∧ rowOK (sv i).1 (sv i).2.1 (sv i).2.2.1 (sv i).2.2.2.1 (sv i).2.2.2.2) ∧ hA h 155 = tx ∧ hI h 118 151 = nI len ∧ len ≤ 90
def inM (i : Nat) : Prop := 151 ≤ i
/-- a call of the model answers v, with the code k -/
def OkM (h : AH) (s : SvT) (m : Nat) (sv : Nat → SvT) (tx : Rw) (len : Nat) (v : Option Value) (k : Nat) (z : Res) : Prop := ∃ h', z = .inl (v, h') ∧ Fr inM h h' ∧ MR h' s m sv tx len ∧ hI h' 112 151 = nI k
section
variable {L : Nat} {xs : Nat → Int32} {h h2 : AH} {s : SvT} {m len : Nat} {sv : Nat → SvT} {tx : Rw} {r : Rw} {H P G n : Nat}
theorem MR.x (c : MR h (r, H, P, G, n) m sv tx len) : Mx h 152 r H P G n none := c.1
theorem MR.y (c : MR h s m sv tx len) : LayF h := c.1.1
theorem MR.m4 (c : MR h s m sv tx len) : m ≤ 4 := c.2.1
theorem MR.ct (c : MR h s m sv tx len) : hI h 116 151 = nI m := c.2.2.1
theorem MR.svd (c : MR h s m sv tx len) {i : Nat} (hi : i < m) : ∀ k, k < 183 → hA h 154 (183 * i + k) = (sv i).1 k := (c.2.2.2.1 i hi).1
theorem MR.so (c : MR h s m sv tx len) {i : Nat} (hi : i < m) : rowOK (sv i).1 (sv i).2.1 (sv i).2.2.1 (sv i).2.2.2.1 (sv i).2.2.2.2 := (c.2.2.2.1 i hi).2
theorem MR.txt (c : MR h s m sv tx len) : hA h 155 = tx := c.2.2.2.2.1
theorem MR.ln (c : MR h s m sv tx len) : hI h 118 151 = nI len := c.2.2.2.2.2.1
theorem MR.l9 (c : MR h s m sv tx len) : len ≤ 90 := c.2.2.2.2.2.2
theorem MR.set {S : Nat → Prop} {s' : SvT} (c : MR h s m sv tx len) (f : Fr S h h2) (x : Mx h2 152 s'.1 s'.2.1 s'.2.2.1 s'.2.2.2.1 s'.2.2.2.2 none) (h1 : ¬ S 151) (h3 : ¬ S 154) (h4 : ¬ S 155) : MR h2 s' m sv tx len := by
  obtain ⟨c1, c2, c3, c4, c5, c6, c7⟩ := c
  refine ⟨x, c2, by rw [f.fi h1]; exact c3, fun i hi => ⟨fun k hk => by rw [f.ar h3]; exact (c4 i hi).1 k hk, (c4 i hi).2⟩, by rw [← c5]; funext j; exact f.ar h4, by rw [f.fi h1]; exact c6, c7⟩
theorem MR.fr {S : Nat → Prop} (c : MR h s m sv tx len) (f : Fr S h h2) (k1 : ¬ S 151) (k2 : ¬ S 152) (k3 : ¬ S 154) (k4 : ¬ S 155) : MR h2 s m sv tx len := c.set f (Mx.fr c.1 f k2 k1) k1 k3 k4
/-- fields of the model that are no part of its state -/
theorem MR.fld {F : Nat} {v : Int32} (c : MR h s m sv tx len) (h1 : ¬ F = 116) (h2 : ¬ F = 118) (h3 : ¬ F = 122) : MR (sI h F 151 v) s m sv tx len := by
  obtain ⟨⟨a1, a2, a3, a4, a5⟩, c2, c3, c4, c5, c6, c7⟩ := c
  exact ⟨⟨LayF_to a1 rfl rfl rfl, a2, a3, a4, by rw [hI_sI, if_neg (fun z => h3 z.1.symm)]; exact a5⟩, c2, by rw [hI_sI, if_neg (fun z => h1 z.1.symm)]; exact c3, c4, c5, by rw [hI_sI, if_neg (fun z => h2 z.1.symm)]; exact c6, c7⟩
theorem MR.th {v : Int32} (c : MR h s m sv tx len) : MR (sI h 112 151 v) s m sv tx len := c.fld (by omega) (by omega) (by omega)
def inSv (i : Nat) : Prop := i = 151 ∨ i = 154
theorem save_m {m0 : Nat} {v1 : Value} (x : Mx h 152 s.1 s.2.1 s.2.2.1 s.2.2.2.1 s.2.2.2.2 none) (hm : m0 < 4) (ct : hI h 116 151 = nI m0) (hsv : ∀ i, i < m0 → (∀ k, k < 183 → hA h 154 (183 * i + k) = (sv i).1 k) ∧ rowOK (sv i).1 (sv i).2.1 (sv i).2.2.1 (sv i).2.2.2.1 (sv i).2.2.2.2) (ht : hA h 155 = tx) (hl : hI h 118 151 = nI len) (l9 : len ≤ 90) : Ev (ev L xs mdX7_save 49 [.ref 151, v1] [] h) (fun z => ∃ h', z = .inl (none, h') ∧ Fr inSv h h' ∧ MR h' s (m0 + 1) (fun i => if i = m0 then s else sv i) tx len ∧ ∀ F, ¬ F = 116 → hI h' F 151 = hI h F 151) := by
  have y := x.y
  have e154 : inSv 154 := Or.inr rfl
  have e151 : inSv 151 := Or.inl rfl
  simp (disch := first | with_reducible assumption | exact cat_int | exact cat_ref | exact cat_null | exact cat_ra | exact Nat.le_of_ble_eq_true rfl | (simp (disch := omega) only [hK_sI, hR_sI, hN_sI, hA_sI, hQ_sI, hL_sI, hn_sI, hK_sR, hI_sR, hN_sR, hA_sR, hQ_sR, hL_sR, hn_sR, hK_sA, hI_sA, hR_sA, hN_sA, hQ_sA, hL_sA, hn_sA, hK_sQ, hI_sQ, hR_sQ, hN_sQ, hA_sQ, hL_sQ, hn_sQ, hK_sL, hI_sL, hR_sL, hN_sL, hA_sL, hQ_sL, hn_sL, hK_cpA, hI_cpA, hR_cpA, hN_cpA, hQ_cpA, hL_cpA, hn_cpA, hK_bump, hI_bump, hR_bump, hN_bump, hA_bump, hQ_bump, hL_bump, hn_bump, hI_sI, hR_sR, hA_sA, hQ_sQ, hL_sL, hA_cpA, isS, cat_int, cat_ref, cat_null, cat_ra, wds_nil, wds_int, wds_ref, wds_long, wds_ra, nz5, nz7, nz2, idxN, inAN, if_true, if_false, b00, b11, b01, eq_self, true_or, or_true, false_or, or_false, true_and, and_true, false_and, and_false, not_true, not_false_eq_true]; done) | omega) only [iX7_save_49, iX7_save_50, ↓reduceIte, ofN, reduceCtorEq, Bool.false_eq_true, Nat.reduceAdd, Nat.reduceMul, Nat.reduceEqDiff, Nat.reduceLeDiff, Nat.reduceLT, le_nlt, ite_not, Nat.lt_irrefl, Decidable.not_not, kn1, kn0, knite, isS, getS, cat_int, cat_ref, cat_null, cat_ra, wds_nil, wds_int, wds_ref, wds_long, wds_ra, b0, b01, b00, b11, b10, if_true, if_false, ite_self, not_true, not_false_eq_true, true_or, or_true, false_or, or_false, true_and, and_true, false_and, and_false, eq_self, idxN, inAN, nI_add, nI_mul, nI_sub, nz5, nz7, nz2, nI_ltN, Nat.add_zero, Nat.zero_add, hK_sI, hR_sI, hN_sI, hA_sI, hQ_sI, hL_sI, hn_sI, hK_sR, hI_sR, hN_sR, hA_sR, hQ_sR, hL_sR, hn_sR, hK_sA, hI_sA, hR_sA, hN_sA, hQ_sA, hL_sA, hn_sA, hK_sQ, hI_sQ, hR_sQ, hN_sQ, hA_sQ, hL_sQ, hn_sQ, hK_sL, hI_sL, hR_sL, hN_sL, hA_sL, hQ_sL, hn_sL, hK_cpA, hI_cpA, hR_cpA, hN_cpA, hQ_cpA, hL_cpA, hn_cpA, hK_bump, hI_bump, hR_bump, hN_bump, hA_bump, hQ_bump, hL_bump, hn_bump, hI_sI, hR_sR, hA_sA, hQ_sQ, hL_sL, hA_cpA]
  refine Ev_loop (n := 183) (fun i Ls h' => Ls = [.ref 151, .int (nI i)] ∧ Fr (fun i => i = 154) h h' ∧ (∀ k, k < i → hA h' 154 (183 * m0 + k) = s.1 k) ∧ ∀ j, j < 183 * m0 → hA h' 154 j = hA h 154 j) ?_ ?_ (Nat.zero_le _) ⟨rfl, Fr.rfl, fun k hk => absurd hk (by omega), fun j _ => rfl⟩
  · rintro i Ls h' hi ⟨rfl, f, a1, a2⟩ k
    have y' := f.y y
    have x' := x.fr f (by omega) (by omega)
    have ct' : hI h' 116 151 = nI m0 := by rw [f.fi (by omega)]; exact ct
    rw [iX7_save_51]
    simp (disch := first | with_reducible assumption | exact cat_int | exact cat_ref | exact cat_null | exact cat_ra | exact Nat.le_of_ble_eq_true rfl | (simp (disch := omega) only [hK_sI, hR_sI, hN_sI, hA_sI, hQ_sI, hL_sI, hn_sI, hK_sR, hI_sR, hN_sR, hA_sR, hQ_sR, hL_sR, hn_sR, hK_sA, hI_sA, hR_sA, hN_sA, hQ_sA, hL_sA, hn_sA, hK_sQ, hI_sQ, hR_sQ, hN_sQ, hA_sQ, hL_sQ, hn_sQ, hK_sL, hI_sL, hR_sL, hN_sL, hA_sL, hQ_sL, hn_sL, hK_cpA, hI_cpA, hR_cpA, hN_cpA, hQ_cpA, hL_cpA, hn_cpA, hK_bump, hI_bump, hR_bump, hN_bump, hA_bump, hQ_bump, hL_bump, hn_bump, hI_sI, hR_sR, hA_sA, hQ_sQ, hL_sL, hA_cpA, isS, cat_int, cat_ref, cat_null, cat_ra, wds_nil, wds_int, wds_ref, wds_long, wds_ra, nz5, nz7, nz2, idxN, inAN, if_true, if_false, b00, b11, b01, eq_self, true_or, or_true, false_or, or_false, true_and, and_true, false_and, and_false, not_true, not_false_eq_true, hi, Y_k151 y', Y_r115 y', Y_k154 y', Y_n154 y', Y_r113 y', x'.k, x'.le, x'.a, ct']; done) | omega) only [iX7_save_52, iX7_save_55, iX7_save_58, iX7_save_59, iX7_save_62, iX7_save_65, iX7_save_66, iX7_save_69, iX7_save_70, iX7_save_71, iX7_save_72, iX7_save_73, iX7_save_76, iX7_save_77, iX7_save_78, iX7_save_79, iX7_save_82, ↓reduceIte, ofN, reduceCtorEq, Bool.false_eq_true, Nat.reduceAdd, Nat.reduceMul, Nat.reduceEqDiff, Nat.reduceLeDiff, Nat.reduceLT, le_nlt, ite_not, Nat.lt_irrefl, Decidable.not_not, kn1, kn0, knite, isS, getS, cat_int, cat_ref, cat_null, cat_ra, wds_nil, wds_int, wds_ref, wds_long, wds_ra, b0, b01, b00, b11, b10, if_true, if_false, ite_self, not_true, not_false_eq_true, true_or, or_true, false_or, or_false, true_and, and_true, false_and, and_false, eq_self, idxN, inAN, nI_add, nI_mul, nI_sub, nz5, nz7, nz2, nI_ltN, Nat.add_zero, Nat.zero_add, hK_sI, hR_sI, hN_sI, hA_sI, hQ_sI, hL_sI, hn_sI, hK_sR, hI_sR, hN_sR, hA_sR, hQ_sR, hL_sR, hn_sR, hK_sA, hI_sA, hR_sA, hN_sA, hQ_sA, hL_sA, hn_sA, hK_sQ, hI_sQ, hR_sQ, hN_sQ, hA_sQ, hL_sQ, hn_sQ, hK_sL, hI_sL, hR_sL, hN_sL, hA_sL, hQ_sL, hn_sL, hK_cpA, hI_cpA, hR_cpA, hN_cpA, hQ_cpA, hL_cpA, hn_cpA, hK_bump, hI_bump, hR_bump, hN_bump, hA_bump, hQ_bump, hL_bump, hn_bump, hI_sI, hR_sR, hA_sA, hQ_sQ, hL_sL, hA_cpA, hi, Y_k151 y', Y_r115 y', Y_k154 y', Y_n154 y', Y_r113 y', x'.k, x'.le, x'.a, ct']
    refine k _ _ ⟨rfl, Fr.wA f rfl, fun j hj => ?_, fun j hj => ?_⟩
    · rw [hA_sA]
      by_cases c : j = i
      · rw [if_pos ⟨rfl, by omega⟩, c]
      · rw [if_neg (by omega)]; exact a1 j (by omega)
    · rw [hA_sA, if_neg (by omega)]; exact a2 j hj
  · rintro Ls h' ⟨rfl, f, a1, a2⟩
    have y' := f.y y
    have ct' : hI h' 116 151 = nI m0 := by rw [f.fi (by omega)]; exact ct
    rw [iX7_save_51]
    simp (disch := first | with_reducible assumption | exact cat_int | exact cat_ref | exact cat_null | exact cat_ra | exact Nat.le_of_ble_eq_true rfl | (simp (disch := omega) only [hK_sI, hR_sI, hN_sI, hA_sI, hQ_sI, hL_sI, hn_sI, hK_sR, hI_sR, hN_sR, hA_sR, hQ_sR, hL_sR, hn_sR, hK_sA, hI_sA, hR_sA, hN_sA, hQ_sA, hL_sA, hn_sA, hK_sQ, hI_sQ, hR_sQ, hN_sQ, hA_sQ, hL_sQ, hn_sQ, hK_sL, hI_sL, hR_sL, hN_sL, hA_sL, hQ_sL, hn_sL, hK_cpA, hI_cpA, hR_cpA, hN_cpA, hQ_cpA, hL_cpA, hn_cpA, hK_bump, hI_bump, hR_bump, hN_bump, hA_bump, hQ_bump, hL_bump, hn_bump, hI_sI, hR_sR, hA_sA, hQ_sQ, hL_sL, hA_cpA, isS, cat_int, cat_ref, cat_null, cat_ra, wds_nil, wds_int, wds_ref, wds_long, wds_ra, nz5, nz7, nz2, idxN, inAN, if_true, if_false, b00, b11, b01, eq_self, true_or, or_true, false_or, or_false, true_and, and_true, false_and, and_false, not_true, not_false_eq_true, Y_k151 y', ct', Ev_some]; done) | omega) only [iX7_save_52, iX7_save_55, iX7_save_85, iX7_save_86, iX7_save_86i, iX7_save_87, iX7_save_90, iX7_save_91, iX7_save_92, iX7_save_95, ↓reduceIte, ofN, reduceCtorEq, Bool.false_eq_true, Nat.reduceAdd, Nat.reduceMul, Nat.reduceEqDiff, Nat.reduceLeDiff, Nat.reduceLT, le_nlt, ite_not, Nat.lt_irrefl, Decidable.not_not, kn1, kn0, knite, isS, getS, cat_int, cat_ref, cat_null, cat_ra, wds_nil, wds_int, wds_ref, wds_long, wds_ra, b0, b01, b00, b11, b10, if_true, if_false, ite_self, not_true, not_false_eq_true, true_or, or_true, false_or, or_false, true_and, and_true, false_and, and_false, eq_self, idxN, inAN, nI_add, nI_mul, nI_sub, nz5, nz7, nz2, nI_ltN, Nat.add_zero, Nat.zero_add, hK_sI, hR_sI, hN_sI, hA_sI, hQ_sI, hL_sI, hn_sI, hK_sR, hI_sR, hN_sR, hA_sR, hQ_sR, hL_sR, hn_sR, hK_sA, hI_sA, hR_sA, hN_sA, hQ_sA, hL_sA, hn_sA, hK_sQ, hI_sQ, hR_sQ, hN_sQ, hA_sQ, hL_sQ, hn_sQ, hK_sL, hI_sL, hR_sL, hN_sL, hA_sL, hQ_sL, hn_sL, hK_cpA, hI_cpA, hR_cpA, hN_cpA, hQ_cpA, hL_cpA, hn_cpA, hK_bump, hI_bump, hR_bump, hN_bump, hA_bump, hQ_bump, hL_bump, hn_bump, hI_sI, hR_sR, hA_sA, hQ_sQ, hL_sL, hA_cpA, Y_k151 y', ct', Ev_some]
    have f9 : Fr inSv h (sI h' 116 151 (nI (m0 + 1))) := Fr.wI (f.mono (fun i hi => Or.inr hi)) e151
    refine ⟨_, rfl, f9, ⟨⟨f9.y y, Or.inl rfl, ?_, x.ok, ?_⟩, by omega, by simp [hI_sI], fun i hi => ?_, ?_, ?_, l9⟩, ?_⟩
    · rw [← x.a]; funext j; rw [hA_sI]; exact f.ar (by omega)
    · rw [hI_sI, if_neg (by omega), f.fi (by omega)]; exact x.il
    · by_cases c : i = m0
      · refine ⟨fun k hk => ?_, ?_⟩
        · rw [hA_sI, c, a1 k hk]
          show _ = (if m0 = m0 then s else sv m0).1 k
          rw [if_pos rfl]
        · show rowOK (if i = m0 then s else sv i).1 (if i = m0 then s else sv i).2.1 (if i = m0 then s else sv i).2.2.1 (if i = m0 then s else sv i).2.2.2.1 (if i = m0 then s else sv i).2.2.2.2
          rw [if_pos c]
          exact x.ok
      · refine ⟨fun k hk => ?_, ?_⟩
        · rw [hA_sI, a2 _ (by omega)]
          show _ = (if i = m0 then s else sv i).1 k
          rw [if_neg c]
          exact (hsv i (by omega)).1 k hk
        · show rowOK (if i = m0 then s else sv i).1 (if i = m0 then s else sv i).2.1 (if i = m0 then s else sv i).2.2.1 (if i = m0 then s else sv i).2.2.2.1 (if i = m0 then s else sv i).2.2.2.2
          rw [if_neg c]
          exact (hsv i (by omega)).2
    · rw [← ht]; funext j; rw [hA_sI]; exact f.ar (by omega)
    · rw [hI_sI, if_neg (by omega), f.fi (by omega)]; exact hl
    · intro F hF
      rw [hI_sI, if_neg (fun z => hF z.1), f.fi (by omega)]
theorem d_saveF (c : MR h s m sv tx len) : Ev (ev L xs mdX7_save 0 [.ref 151, .null] [] h) (fun z => ∃ h', z = .inl (none, h') ∧ Fr inSv h h' ∧ MR h' s (pushN m) (push m sv s) tx len ∧ ∀ F, ¬ F = 116 → hI h' F 151 = hI h F 151) := by
  have m4 := c.m4
  have y := c.y
  have e154 : inSv 154 := Or.inr rfl
  have e151 : inSv 151 := Or.inl rfl
  by_cases cm : m = 4
  · subst cm
    simp (disch := first | with_reducible assumption | exact cat_int | exact cat_ref | exact cat_null | exact cat_ra | exact Nat.le_of_ble_eq_true rfl | (simp (disch := omega) only [hK_sI, hR_sI, hN_sI, hA_sI, hQ_sI, hL_sI, hn_sI, hK_sR, hI_sR, hN_sR, hA_sR, hQ_sR, hL_sR, hn_sR, hK_sA, hI_sA, hR_sA, hN_sA, hQ_sA, hL_sA, hn_sA, hK_sQ, hI_sQ, hR_sQ, hN_sQ, hA_sQ, hL_sQ, hn_sQ, hK_sL, hI_sL, hR_sL, hN_sL, hA_sL, hQ_sL, hn_sL, hK_cpA, hI_cpA, hR_cpA, hN_cpA, hQ_cpA, hL_cpA, hn_cpA, hK_bump, hI_bump, hR_bump, hN_bump, hA_bump, hQ_bump, hL_bump, hn_bump, hI_sI, hR_sR, hA_sA, hQ_sQ, hL_sL, hA_cpA, isS, cat_int, cat_ref, cat_null, cat_ra, wds_nil, wds_int, wds_ref, wds_long, wds_ra, nz5, nz7, nz2, idxN, inAN, if_true, if_false, b00, b11, b01, eq_self, true_or, or_true, false_or, or_false, true_and, and_true, false_and, and_false, not_true, not_false_eq_true, Y_k151 y, c.ct]; done) | omega) only [iX7_save_0, iX7_save_1, iX7_save_4, iX7_save_5, iX7_save_8, iX7_save_9, ↓reduceIte, ofN, reduceCtorEq, Bool.false_eq_true, Nat.reduceAdd, Nat.reduceMul, Nat.reduceEqDiff, Nat.reduceLeDiff, Nat.reduceLT, le_nlt, ite_not, Nat.lt_irrefl, Decidable.not_not, kn1, kn0, knite, isS, getS, cat_int, cat_ref, cat_null, cat_ra, wds_nil, wds_int, wds_ref, wds_long, wds_ra, b0, b01, b00, b11, b10, if_true, if_false, ite_self, not_true, not_false_eq_true, true_or, or_true, false_or, or_false, true_and, and_true, false_and, and_false, eq_self, idxN, inAN, nI_add, nI_mul, nI_sub, nz5, nz7, nz2, nI_ltN, Nat.add_zero, Nat.zero_add, hK_sI, hR_sI, hN_sI, hA_sI, hQ_sI, hL_sI, hn_sI, hK_sR, hI_sR, hN_sR, hA_sR, hQ_sR, hL_sR, hn_sR, hK_sA, hI_sA, hR_sA, hN_sA, hQ_sA, hL_sA, hn_sA, hK_sQ, hI_sQ, hR_sQ, hN_sQ, hA_sQ, hL_sQ, hn_sQ, hK_sL, hI_sL, hR_sL, hN_sL, hA_sL, hQ_sL, hn_sL, hK_cpA, hI_cpA, hR_cpA, hN_cpA, hQ_cpA, hL_cpA, hn_cpA, hK_bump, hI_bump, hR_bump, hN_bump, hA_bump, hQ_bump, hL_bump, hn_bump, hI_sI, hR_sR, hA_sA, hQ_sQ, hL_sL, hA_cpA, Y_k151 y, c.ct]
    refine Ev_loop (n := 549) (fun i Ls h' => Ls = [.ref 151, .int (nI i)] ∧ Fr (fun i => i = 154) h h' ∧ (∀ j, j < i → hA h' 154 j = hA h 154 (j + 183)) ∧ ∀ j, i ≤ j → hA h' 154 j = hA h 154 j) ?_ ?_ (Nat.zero_le _) ⟨rfl, Fr.rfl, fun k hk => absurd hk (by omega), fun j _ => rfl⟩
    · rintro i Ls h' hi ⟨rfl, f, a1, a2⟩ k
      have y' := f.y y
      have a3 := a2 (i + 183) (by omega)
      rw [iX7_save_10]
      simp (disch := first | with_reducible assumption | exact cat_int | exact cat_ref | exact cat_null | exact cat_ra | exact Nat.le_of_ble_eq_true rfl | (simp (disch := omega) only [hK_sI, hR_sI, hN_sI, hA_sI, hQ_sI, hL_sI, hn_sI, hK_sR, hI_sR, hN_sR, hA_sR, hQ_sR, hL_sR, hn_sR, hK_sA, hI_sA, hR_sA, hN_sA, hQ_sA, hL_sA, hn_sA, hK_sQ, hI_sQ, hR_sQ, hN_sQ, hA_sQ, hL_sQ, hn_sQ, hK_sL, hI_sL, hR_sL, hN_sL, hA_sL, hQ_sL, hn_sL, hK_cpA, hI_cpA, hR_cpA, hN_cpA, hQ_cpA, hL_cpA, hn_cpA, hK_bump, hI_bump, hR_bump, hN_bump, hA_bump, hQ_bump, hL_bump, hn_bump, hI_sI, hR_sR, hA_sA, hQ_sQ, hL_sL, hA_cpA, isS, cat_int, cat_ref, cat_null, cat_ra, wds_nil, wds_int, wds_ref, wds_long, wds_ra, nz5, nz7, nz2, idxN, inAN, if_true, if_false, b00, b11, b01, eq_self, true_or, or_true, false_or, or_false, true_and, and_true, false_and, and_false, not_true, not_false_eq_true, hi, Y_k151 y', Y_r115 y', Y_k154 y', Y_n154 y', a3]; done) | omega) only [iX7_save_11, iX7_save_14, iX7_save_17, iX7_save_18, iX7_save_21, iX7_save_22, iX7_save_23, iX7_save_26, iX7_save_27, iX7_save_30, iX7_save_31, iX7_save_32, iX7_save_33, iX7_save_36, ↓reduceIte, ofN, reduceCtorEq, Bool.false_eq_true, Nat.reduceAdd, Nat.reduceMul, Nat.reduceEqDiff, Nat.reduceLeDiff, Nat.reduceLT, le_nlt, ite_not, Nat.lt_irrefl, Decidable.not_not, kn1, kn0, knite, isS, getS, cat_int, cat_ref, cat_null, cat_ra, wds_nil, wds_int, wds_ref, wds_long, wds_ra, b0, b01, b00, b11, b10, if_true, if_false, ite_self, not_true, not_false_eq_true, true_or, or_true, false_or, or_false, true_and, and_true, false_and, and_false, eq_self, idxN, inAN, nI_add, nI_mul, nI_sub, nz5, nz7, nz2, nI_ltN, Nat.add_zero, Nat.zero_add, hK_sI, hR_sI, hN_sI, hA_sI, hQ_sI, hL_sI, hn_sI, hK_sR, hI_sR, hN_sR, hA_sR, hQ_sR, hL_sR, hn_sR, hK_sA, hI_sA, hR_sA, hN_sA, hQ_sA, hL_sA, hn_sA, hK_sQ, hI_sQ, hR_sQ, hN_sQ, hA_sQ, hL_sQ, hn_sQ, hK_sL, hI_sL, hR_sL, hN_sL, hA_sL, hQ_sL, hn_sL, hK_cpA, hI_cpA, hR_cpA, hN_cpA, hQ_cpA, hL_cpA, hn_cpA, hK_bump, hI_bump, hR_bump, hN_bump, hA_bump, hQ_bump, hL_bump, hn_bump, hI_sI, hR_sR, hA_sA, hQ_sQ, hL_sL, hA_cpA, hi, Y_k151 y', Y_r115 y', Y_k154 y', Y_n154 y', a3]
      refine k _ _ ⟨rfl, Fr.wA f rfl, fun j hj => ?_, fun j hj => ?_⟩
      · rw [hA_sA]
        by_cases c : j = i
        · rw [if_pos ⟨rfl, c⟩, c]
        · rw [if_neg (by omega)]; exact a1 j (by omega)
      · rw [hA_sA, if_neg (by omega)]; exact a2 j (by omega)
    · rintro Ls h' ⟨rfl, f, a1, a2⟩
      have y' := f.y y
      have ct' : hI h' 116 151 = nI 4 := by rw [f.fi (by omega)]; exact c.ct
      have e3 : nI 4 - nI 1 = nI 3 := by decide
      rw [iX7_save_10]
      simp (disch := first | with_reducible assumption | exact cat_int | exact cat_ref | exact cat_null | exact cat_ra | exact Nat.le_of_ble_eq_true rfl | (simp (disch := omega) only [hK_sI, hR_sI, hN_sI, hA_sI, hQ_sI, hL_sI, hn_sI, hK_sR, hI_sR, hN_sR, hA_sR, hQ_sR, hL_sR, hn_sR, hK_sA, hI_sA, hR_sA, hN_sA, hQ_sA, hL_sA, hn_sA, hK_sQ, hI_sQ, hR_sQ, hN_sQ, hA_sQ, hL_sQ, hn_sQ, hK_sL, hI_sL, hR_sL, hN_sL, hA_sL, hQ_sL, hn_sL, hK_cpA, hI_cpA, hR_cpA, hN_cpA, hQ_cpA, hL_cpA, hn_cpA, hK_bump, hI_bump, hR_bump, hN_bump, hA_bump, hQ_bump, hL_bump, hn_bump, hI_sI, hR_sR, hA_sA, hQ_sQ, hL_sL, hA_cpA, isS, cat_int, cat_ref, cat_null, cat_ra, wds_nil, wds_int, wds_ref, wds_long, wds_ra, nz5, nz7, nz2, idxN, inAN, if_true, if_false, b00, b11, b01, eq_self, true_or, or_true, false_or, or_false, true_and, and_true, false_and, and_false, not_true, not_false_eq_true, Y_k151 y', ct', e3]; done) | omega) only [iX7_save_11, iX7_save_14, iX7_save_39, iX7_save_40, iX7_save_40i, iX7_save_41, iX7_save_44, iX7_save_45, iX7_save_46, ↓reduceIte, ofN, reduceCtorEq, Bool.false_eq_true, Nat.reduceAdd, Nat.reduceMul, Nat.reduceEqDiff, Nat.reduceLeDiff, Nat.reduceLT, le_nlt, ite_not, Nat.lt_irrefl, Decidable.not_not, kn1, kn0, knite, isS, getS, cat_int, cat_ref, cat_null, cat_ra, wds_nil, wds_int, wds_ref, wds_long, wds_ra, b0, b01, b00, b11, b10, if_true, if_false, ite_self, not_true, not_false_eq_true, true_or, or_true, false_or, or_false, true_and, and_true, false_and, and_false, eq_self, idxN, inAN, nI_add, nI_mul, nI_sub, nz5, nz7, nz2, nI_ltN, Nat.add_zero, Nat.zero_add, hK_sI, hR_sI, hN_sI, hA_sI, hQ_sI, hL_sI, hn_sI, hK_sR, hI_sR, hN_sR, hA_sR, hQ_sR, hL_sR, hn_sR, hK_sA, hI_sA, hR_sA, hN_sA, hQ_sA, hL_sA, hn_sA, hK_sQ, hI_sQ, hR_sQ, hN_sQ, hA_sQ, hL_sQ, hn_sQ, hK_sL, hI_sL, hR_sL, hN_sL, hA_sL, hQ_sL, hn_sL, hK_cpA, hI_cpA, hR_cpA, hN_cpA, hQ_cpA, hL_cpA, hn_cpA, hK_bump, hI_bump, hR_bump, hN_bump, hA_bump, hQ_bump, hL_bump, hn_bump, hI_sI, hR_sR, hA_sA, hQ_sQ, hL_sL, hA_cpA, Y_k151 y', ct', e3]
      have f9 : Fr inSv h (sI h' 116 151 (nI 3)) := Fr.wI (f.mono (fun i hi => Or.inr hi)) e151
      refine Ev_mono (save_m (s := s) (m0 := 3) (sv := fun i => sv (i + 1)) (tx := tx) (len := len) ?_ (by omega) (by simp [hI_sI]) (fun i hi => ⟨fun k hk => ?_, c.so (by omega)⟩) ?_ ?_ c.l9) ?_
      · refine ⟨f9.y y, Or.inl rfl, ?_, c.1.ok, ?_⟩
        · rw [← c.1.a]; funext j; rw [hA_sI]; exact f.ar (by omega)
        · rw [hI_sI, if_neg (by omega), f.fi (by omega)]; exact c.1.il
      · rw [hA_sI, a1 _ (by omega), show 183 * i + k + 183 = 183 * (i + 1) + k by omega]
        exact c.svd (by omega) k hk
      · rw [← c.txt]; funext j; rw [hA_sI]; exact f.ar (by omega)
      · rw [hI_sI, if_neg (by omega), f.fi (by omega)]; exact c.ln
      · rintro z ⟨h1, e, f1, c1, t1⟩
        refine ⟨h1, e, f9.tr f1, ?_, fun F hF => (t1 F hF).trans (by rw [hI_sI, if_neg (fun z => hF z.1), f.fi (by omega)])⟩
        have e2 : push 4 sv s = fun i => if i = 3 then s else sv (i + 1) := by funext i; exact if_pos rfl
        rw [e2]
        exact c1
  · have c4 : ¬ nI m = nI 4 := by rw [nI_eqN (by omega) (by omega)]; exact cm
    simp (disch := first | with_reducible assumption | exact cat_int | exact cat_ref | exact cat_null | exact cat_ra | exact Nat.le_of_ble_eq_true rfl | (simp (disch := omega) only [hK_sI, hR_sI, hN_sI, hA_sI, hQ_sI, hL_sI, hn_sI, hK_sR, hI_sR, hN_sR, hA_sR, hQ_sR, hL_sR, hn_sR, hK_sA, hI_sA, hR_sA, hN_sA, hQ_sA, hL_sA, hn_sA, hK_sQ, hI_sQ, hR_sQ, hN_sQ, hA_sQ, hL_sQ, hn_sQ, hK_sL, hI_sL, hR_sL, hN_sL, hA_sL, hQ_sL, hn_sL, hK_cpA, hI_cpA, hR_cpA, hN_cpA, hQ_cpA, hL_cpA, hn_cpA, hK_bump, hI_bump, hR_bump, hN_bump, hA_bump, hQ_bump, hL_bump, hn_bump, hI_sI, hR_sR, hA_sA, hQ_sQ, hL_sL, hA_cpA, isS, cat_int, cat_ref, cat_null, cat_ra, wds_nil, wds_int, wds_ref, wds_long, wds_ra, nz5, nz7, nz2, idxN, inAN, if_true, if_false, b00, b11, b01, eq_self, true_or, or_true, false_or, or_false, true_and, and_true, false_and, and_false, not_true, not_false_eq_true, Y_k151 y, c.ct, c4]; done) | omega) only [iX7_save_0, iX7_save_1, iX7_save_4, iX7_save_5, ↓reduceIte, ofN, reduceCtorEq, Bool.false_eq_true, Nat.reduceAdd, Nat.reduceMul, Nat.reduceEqDiff, Nat.reduceLeDiff, Nat.reduceLT, le_nlt, ite_not, Nat.lt_irrefl, Decidable.not_not, kn1, kn0, knite, isS, getS, cat_int, cat_ref, cat_null, cat_ra, wds_nil, wds_int, wds_ref, wds_long, wds_ra, b0, b01, b00, b11, b10, if_true, if_false, ite_self, not_true, not_false_eq_true, true_or, or_true, false_or, or_false, true_and, and_true, false_and, and_false, eq_self, idxN, inAN, nI_add, nI_mul, nI_sub, nz5, nz7, nz2, nI_ltN, Nat.add_zero, Nat.zero_add, hK_sI, hR_sI, hN_sI, hA_sI, hQ_sI, hL_sI, hn_sI, hK_sR, hI_sR, hN_sR, hA_sR, hQ_sR, hL_sR, hn_sR, hK_sA, hI_sA, hR_sA, hN_sA, hQ_sA, hL_sA, hn_sA, hK_sQ, hI_sQ, hR_sQ, hN_sQ, hA_sQ, hL_sQ, hn_sQ, hK_sL, hI_sL, hR_sL, hN_sL, hA_sL, hQ_sL, hn_sL, hK_cpA, hI_cpA, hR_cpA, hN_cpA, hQ_cpA, hL_cpA, hn_cpA, hK_bump, hI_bump, hR_bump, hN_bump, hA_bump, hQ_bump, hL_bump, hn_bump, hI_sI, hR_sR, hA_sA, hQ_sQ, hL_sL, hA_cpA, Y_k151 y, c.ct, c4]
    refine Ev_mono (save_m c.1 (by omega) c.ct c.2.2.2.1 c.txt c.ln c.l9) ?_
    rintro z ⟨h1, e, f1, c1, t1⟩
    refine ⟨h1, e, f1, ?_, t1⟩
    have e1 : pushN m = m + 1 := if_neg cm
    have e2 : push m sv s = fun i => if i = m then s else sv i := by funext i; exact if_neg cm
    rw [e1, e2]
    exact c1
theorem d_save (c : MR h s m sv tx len) : Ev (ev L xs mdX7_save 0 [.ref 151, .null] [] h) (fun z => ∃ h', z = .inl (none, h') ∧ Fr inSv h h' ∧ MR h' s (pushN m) (push m sv s) tx len ∧ hI h' 112 151 = hI h 112 151) := by
  refine Ev_mono (d_saveF c) ?_
  rintro z ⟨h1, e, f1, c1, t1⟩
  exact ⟨h1, e, f1, c1, t1 112 (by omega)⟩
end
