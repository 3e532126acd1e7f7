/-! THE CLASS AS A WHOLE, AND ITS SAVED STATES -/
abbrev SvT : Type := Rw × Nat × Nat × Nat × Nat
def RlS (h : AH) (a : Nat) (s : SvT) : Prop := Rl h a s.1 s.2.1 s.2.2.1 s.2.2.2.1 s.2.2.2.2
/-- the rows of saved states: four blocks in some order -/
def isVb (b : Nat) : Prop := b = 59 ∨ b = 82 ∨ b = 105 ∨ b = 128
def SvB (h : AH) (f : Nat → Nat) : Prop := (∀ i, i < 4 → hQ h 47 i = some (f i) ∧ isVb (f i)) ∧ ∀ i j, i < 4 → j < 4 → f i = f j → i = j
def CR (h : AH) (s : SvT) (m : Nat) (sv : Nat → SvT) (tx : Rw) (len : Nat) : Prop := LayF h ∧ (∀ a, isB a → LaySt h a) ∧ RlS h 1 s ∧ m ≤ 4 ∧ hI h 99 0 = nI m ∧ (∃ f, SvB h f ∧ ∀ i, i < m → RlS h (f i) (sv i)) ∧ hA h 55 = tx ∧ hI h 17 54 = nI len ∧ len ≤ 90
/-- what a method of the class leaves of the model's things -/
def FrC (h h' : AH) : Prop := hK h' = hK h ∧ hR h' = hR h ∧ hN h' = hN h ∧ hn h' = hn h ∧ hL h' = hL h ∧ (∀ i, i ≠ 47 → hQ h' i = hQ h i) ∧ (∀ F i, 151 ≤ i → hI h' F i = hI h F i) ∧ ∀ i j, 151 ≤ i → hA h' i j = hA h i j
/-- the text's reading stays -/
def FrO (h h' : AH) : Prop := (∀ F, hI h' F 54 = hI h F 54) ∧ ∀ i j, 54 ≤ i → i < 59 → hA h' i j = hA h i j
def push (m : Nat) (sv : Nat → SvT) (s : SvT) : Nat → SvT := fun i => if m = 4 then (if i = 3 then s else sv (i + 1)) else if i = m then s else sv i
def pushN (m : Nat) : Nat := if m = 4 then 4 else m + 1
section
variable {L : Nat} {xs : Nat → Int32} {h h2 h3 : AH} {s : SvT} {m len : Nat} {sv : Nat → SvT} {tx : Rw}
theorem FrC.rf : FrC h h := ⟨Eq.refl _, Eq.refl _, Eq.refl _, Eq.refl _, Eq.refl _, fun _ _ => Eq.refl _, fun _ _ _ => Eq.refl _, fun _ _ _ => Eq.refl _⟩
theorem FrC.tr (f : FrC h h2) (g : FrC h2 h3) : FrC h h3 := by
  obtain ⟨a1, a2, a3, a4, a5, a6, a7, a8⟩ := f
  obtain ⟨b1, b2, b3, b4, b5, b6, b7, b8⟩ := g
  exact ⟨b1.trans a1, b2.trans a2, b3.trans a3, b4.trans a4, b5.trans a5, fun i hi => (b6 i hi).trans (a6 i hi), fun F i hi => (b7 F i hi).trans (a7 F i hi), fun i j hi => (b8 i j hi).trans (a8 i j hi)⟩
theorem Fr.c {S : Nat → Prop} (f : Fr S h h2) (hS : ∀ i, S i → i < 151) : FrC h h2 := by
  refine ⟨f.ki, f.re, f.le, f.2.2.2.2.1, f.2.2.2.2.2.2.2.1, fun i _ => by rw [f.qq], fun F i hi => f.fi (fun z => ?_), fun i j hi => f.ar (fun z => ?_)⟩
  · have := hS i z; omega
  · have := hS i z; omega
theorem Rl.eq {a H P G n : Nat} {r : Rw} (R : Rl h a r H P G n) (e1 : ∀ F i, a ≤ i → i < a + 23 → hI h2 F i = hI h F i) (e2 : ∀ i j, a ≤ i → i < a + 23 → hA h2 i j = hA h i j) : Rl h2 a r H P G n := by
  obtain ⟨a1, a2, a3, a4, a5, a6, a7, a8, a9, a10, a11, a12, a13⟩ := R
  refine ⟨a1, a2, a3, a4, ?_, ?_, ?_, ?_, ?_, ?_, fun i hi => ?_, fun p hp k hk => ?_, fun g hg k hk => ?_⟩
  · rw [e1 _ _ (by omega) (by omega)]; exact a5
  · rw [e1 _ _ (by omega) (by omega)]; exact a6
  · rw [e1 _ _ (by omega) (by omega)]; exact a7
  · rw [e1 _ _ (by omega) (by omega)]; exact a8
  · rw [e1 _ _ (by omega) (by omega)]; exact a9
  · rw [e1 _ _ (by omega) (by omega)]; exact a10
  · rw [e2 _ _ (by omega) (by omega), e2 _ _ (by omega) (by omega)]; exact a11 i hi
  · rw [e1 _ _ (by omega) (by omega)]; exact a12 p hp k hk
  · rw [e1 _ _ (by omega) (by omega)]; exact a13 g hg k hk
theorem isVb_B {b : Nat} (hb : isVb b) : isB b := by
  unfold isVb at hb
  unfold isB
  omega
/-- the class's relation stays where neither the state nor the saved ones nor the text are touched -/
theorem CR.fr {S : Nat → Prop} (c : CR h s m sv tx len) (f : Fr S h h2) (hS : ∀ i, S i → (24 ≤ i ∧ i < 47) ∨ (48 ≤ i ∧ i < 54) ∨ i = 56 ∨ i = 57 ∨ i = 58) : CR h2 s m sv tx len := by
  obtain ⟨c1, c2, c3, c4, c5, ⟨g, c6, c7⟩, c8, c9, c10⟩ := c
  refine ⟨f.y c1, fun a ha => f.st (c2 a ha), Rl.fr c3 f (fun i h1 h2 z => ?_), c4, ?_, ⟨g, ⟨fun i hi => ?_, c6.2⟩, fun i hi => ?_⟩, ?_, ?_, c10⟩
  · have := hS i z; omega
  · rw [f.fi (fun z => by have := hS 0 z; omega)]; exact c5
  · rw [f.qq]; exact c6.1 i hi
  · refine Rl.fr (c7 i hi) f (fun j h1 h2 z => ?_)
    have := hS j z
    have v := (c6.1 i (by omega)).2
    unfold isVb at v
    omega
  · rw [← c8]; funext j; exact f.ar (fun z => by have := hS 55 z; omega)
  · rw [f.fi (fun z => by have := hS 54 z; omega)]; exact c9
theorem save_tail {f : Nat → Nat} {m0 : Nat} {v1 v2 : Value} (hy : LayF h) (hB : ∀ a, isB a → LaySt h a) (hf : SvB h f) (hm : m0 < 4) (hct : hI h 99 0 = nI m0) (R : RlS h 1 s) (hsv : ∀ i, i < m0 → RlS h (f i) (sv i)) (ht : hA h 55 = tx) (hl : hI h 17 54 = nI len) (l9 : len ≤ 90) : Ev (ev L xs mdX6_save 59 [.ref 0, v1, v2] [] h) (fun z => ∃ h', z = .inl (none, h') ∧ FrC h h' ∧ FrO h h' ∧ hc h' = hc h ∧ hs h' = hs h ∧ CR h' s (m0 + 1) (fun i => if i = m0 then s else sv i) tx len) := by
  obtain ⟨hq, hin⟩ := hf
  have hb := (hq m0 hm).2
  have q1 := (hq m0 hm).1
  have k47 := Y_k47 hy
  have lb := hB (f m0) (isVb_B hb)
  have l1 := hB 1 (Or.inl rfl)
  have dj : f m0 + 23 ≤ 1 ∨ 1 + 23 ≤ f m0 := by unfold isVb at hb; omega
  have kk : hK h 47 = 9 ∨ hK h 47 = 10 ∨ hK h 47 = 11 := Or.inr (Or.inr k47)
  simp (disch := first | with_reducible assumption | exact cat_int | exact cat_ref | exact cat_null | exact cat_ra | exact Nat.le_of_ble_eq_true rfl | (simp (disch := omega) only [hK_sI, hR_sI, hN_sI, hA_sI, hQ_sI, hL_sI, hn_sI, hK_sR, hI_sR, hN_sR, hA_sR, hQ_sR, hL_sR, hn_sR, hK_sA, hI_sA, hR_sA, hN_sA, hQ_sA, hL_sA, hn_sA, hK_sQ, hI_sQ, hR_sQ, hN_sQ, hA_sQ, hL_sQ, hn_sQ, hK_sL, hI_sL, hR_sL, hN_sL, hA_sL, hQ_sL, hn_sL, hK_cpA, hI_cpA, hR_cpA, hN_cpA, hQ_cpA, hL_cpA, hn_cpA, hK_bump, hI_bump, hR_bump, hN_bump, hA_bump, hQ_bump, hL_bump, hn_bump, hI_sI, hR_sR, hA_sA, hQ_sQ, hL_sL, hA_cpA, isS, cat_int, cat_ref, cat_null, cat_ra, wds_nil, wds_int, wds_ref, wds_long, wds_ra, nz5, nz7, nz2, idxN, inAN, if_true, if_false, b00, b11, b01, eq_self, true_or, or_true, false_or, or_false, true_and, and_true, false_and, and_false, not_true, not_false_eq_true, Y_k0 hy, Y_r98 hy, Y_r96 hy, k47, Y_n47 hy, hct, q1, LS_k lb]; done) | omega) only [iX6_save_59, iX6_save_60, iX6_save_63, iX6_save_64, iX6_save_67, iX6_save_68, iX6_save_69, iX6_save_72, ↓reduceIte, ofN, reduceCtorEq, Bool.false_eq_true, Nat.reduceAdd, Nat.reduceMul, Nat.reduceEqDiff, Nat.reduceLeDiff, Nat.reduceLT, le_nlt, ite_not, Nat.lt_irrefl, Decidable.not_not, kn1, kn0, knite, isS, getS, cat_int, cat_ref, cat_null, cat_ra, wds_nil, wds_int, wds_ref, wds_long, wds_ra, b0, b01, b00, b11, b10, if_true, if_false, ite_self, not_true, not_false_eq_true, true_or, or_true, false_or, or_false, true_and, and_true, false_and, and_false, eq_self, idxN, inAN, nI_add, nI_mul, nI_sub, nz5, nz7, nz2, nI_ltN, Nat.add_zero, Nat.zero_add, hK_sI, hR_sI, hN_sI, hA_sI, hQ_sI, hL_sI, hn_sI, hK_sR, hI_sR, hN_sR, hA_sR, hQ_sR, hL_sR, hn_sR, hK_sA, hI_sA, hR_sA, hN_sA, hQ_sA, hL_sA, hn_sA, hK_sQ, hI_sQ, hR_sQ, hN_sQ, hA_sQ, hL_sQ, hn_sQ, hK_sL, hI_sL, hR_sL, hN_sL, hA_sL, hQ_sL, hn_sL, hK_cpA, hI_cpA, hR_cpA, hN_cpA, hQ_cpA, hL_cpA, hn_cpA, hK_bump, hI_bump, hR_bump, hN_bump, hA_bump, hQ_bump, hL_bump, hn_bump, hI_sI, hR_sR, hA_sA, hQ_sQ, hL_sL, hA_cpA, Y_k0 hy, Y_r98 hy, Y_r96 hy, k47, Y_n47 hy, hct, q1, LS_k lb]
  refine Ev_call (s_copy lb l1 R dj) ?_
  rintro _ ⟨h1, rfl, f1, R1⟩
  have y1 := f1.y hy
  have e0 : hI h1 99 0 = nI m0 := by rw [f1.fi (fun z => by have := z.1; unfold isVb at hb; omega)]; exact hct
  simp (disch := first | with_reducible assumption | exact cat_int | exact cat_ref | exact cat_null | exact cat_ra | exact Nat.le_of_ble_eq_true rfl | (simp (disch := omega) only [hK_sI, hR_sI, hN_sI, hA_sI, hQ_sI, hL_sI, hn_sI, hK_sR, hI_sR, hN_sR, hA_sR, hQ_sR, hL_sR, hn_sR, hK_sA, hI_sA, hR_sA, hN_sA, hQ_sA, hL_sA, hn_sA, hK_sQ, hI_sQ, hR_sQ, hN_sQ, hA_sQ, hL_sQ, hn_sQ, hK_sL, hI_sL, hR_sL, hN_sL, hA_sL, hQ_sL, hn_sL, hK_cpA, hI_cpA, hR_cpA, hN_cpA, hQ_cpA, hL_cpA, hn_cpA, hK_bump, hI_bump, hR_bump, hN_bump, hA_bump, hQ_bump, hL_bump, hn_bump, hI_sI, hR_sR, hA_sA, hQ_sQ, hL_sL, hA_cpA, isS, cat_int, cat_ref, cat_null, cat_ra, wds_nil, wds_int, wds_ref, wds_long, wds_ra, nz5, nz7, nz2, idxN, inAN, if_true, if_false, b00, b11, b01, eq_self, true_or, or_true, false_or, or_false, true_and, and_true, false_and, and_false, not_true, not_false_eq_true, Y_k0 y1, e0, Ev_some]; done) | omega) only [iX6_save_75, iX6_save_76, iX6_save_76i, iX6_save_77, iX6_save_80, iX6_save_81, iX6_save_82, iX6_save_85, ↓reduceIte, ofN, reduceCtorEq, Bool.false_eq_true, Nat.reduceAdd, Nat.reduceMul, Nat.reduceEqDiff, Nat.reduceLeDiff, Nat.reduceLT, le_nlt, ite_not, Nat.lt_irrefl, Decidable.not_not, kn1, kn0, knite, isS, getS, cat_int, cat_ref, cat_null, cat_ra, wds_nil, wds_int, wds_ref, wds_long, wds_ra, b0, b01, b00, b11, b10, if_true, if_false, ite_self, not_true, not_false_eq_true, true_or, or_true, false_or, or_false, true_and, and_true, false_and, and_false, eq_self, idxN, inAN, nI_add, nI_mul, nI_sub, nz5, nz7, nz2, nI_ltN, Nat.add_zero, Nat.zero_add, hK_sI, hR_sI, hN_sI, hA_sI, hQ_sI, hL_sI, hn_sI, hK_sR, hI_sR, hN_sR, hA_sR, hQ_sR, hL_sR, hn_sR, hK_sA, hI_sA, hR_sA, hN_sA, hQ_sA, hL_sA, hn_sA, hK_sQ, hI_sQ, hR_sQ, hN_sQ, hA_sQ, hL_sQ, hn_sQ, hK_sL, hI_sL, hR_sL, hN_sL, hA_sL, hQ_sL, hn_sL, hK_cpA, hI_cpA, hR_cpA, hN_cpA, hQ_cpA, hL_cpA, hn_cpA, hK_bump, hI_bump, hR_bump, hN_bump, hA_bump, hQ_bump, hL_bump, hn_bump, hI_sI, hR_sR, hA_sA, hQ_sQ, hL_sL, hA_cpA, Y_k0 y1, e0, Ev_some]
  have f2 : Fr (fun i => i = 0 ∨ inSt (f m0) i) h (sI h1 99 0 (nI (m0 + 1))) := Fr.wI (f1.mono (fun i hi => Or.inr hi)) (Or.inl rfl)
  have fo : FrO h (sI h1 99 0 (nI (m0 + 1))) := ⟨fun F => f2.fi (fun z => by rcases z with z | z; omega; have := z.1; have := z.2; unfold isVb at hb; omega), fun i j h1 h2 => f2.ar (fun z => by rcases z with z | z; omega; have := z.1; have := z.2; unfold isVb at hb; omega)⟩
  refine ⟨_, rfl, f2.c (fun i hi => ?_), fo, f2.2.2.2.2.2.1, f2.2.2.2.2.2.2.1, f2.y hy, fun a ha => f2.st (hB a ha), Rl.fr R f2 (fun i h1 h2 z => ?_), by omega, by simp [hI_sI], ⟨f, ⟨fun i hi => ?_, hin⟩, fun i hi => ?_⟩, ?_, ?_, l9⟩
  · rcases hi with z | z
    · omega
    · have := z.1; have := z.2; unfold isVb at hb; omega
  · rcases z with z | z
    · omega
    · have := z.1; have := z.2; unfold isVb at hb; omega
  · rw [f2.qq]; exact hq i hi
  · show RlS _ (f i) (if i = m0 then s else sv i)
    by_cases c : i = m0
    · rw [if_pos c, c]
      exact Rl.fr R1 (Fr.wI (S := fun i => i = 0) Fr.rfl rfl) (fun j h1 h2 z => by unfold isVb at hb; omega)
    · rw [if_neg c]
      refine Rl.fr (hsv i (by omega)) f2 (fun j h1 h2 z => ?_)
      have v1 := (hq i (by omega)).2
      have ne : ¬ f i = f m0 := fun z => c (hin i m0 (by omega) hm z)
      rcases z with z | z
      · unfold isVb at v1; omega
      · have := z.1; have := z.2; unfold isVb at hb v1; omega
  · rw [← ht]; funext j; exact f2.ar (fun z => by rcases z with z | z; omega; have := z.1; have := z.2; unfold isVb at hb; omega)
  · rw [f2.fi (fun z => by rcases z with z | z; omega; have := z.1; have := z.2; unfold isVb at hb; omega)]; exact hl
theorem s_saveO (c : CR h s m sv tx len) : Ev (ev L xs mdX6_save 0 [.ref 0, .null, .null] [] h) (fun z => ∃ h', z = .inl (none, h') ∧ FrC h h' ∧ FrO h h' ∧ hc h' = hc h ∧ hs h' = hs h ∧ CR h' s (pushN m) (push m sv s) tx len) := by
  obtain ⟨hy, hB, R, m4, hct, ⟨f, hf, hsv⟩, ht, hl, l9⟩ := c
  have k0 := Y_k0 hy
  have k47 := Y_k47 hy
  have n47 := Y_n47 hy
  have r98 := Y_r98 hy
  by_cases cm : m = 4
  · subst cm
    have q0 := (hf.1 0 (by omega)).1
    have q1 := (hf.1 1 (by omega)).1
    have q2 := (hf.1 2 (by omega)).1
    have q3 := (hf.1 3 (by omega)).1
    have rk : rowK 11 = 5 := by decide
    have k5 : ∀ i, i < 4 → hK h (f i) = 5 := fun i hi => LS_k (hB _ (isVb_B (hf.1 i hi).2))
    have kf0 := k5 0 (by omega)
    have kf1 := k5 1 (by omega)
    have kf2 := k5 2 (by omega)
    have kf3 := k5 3 (by omega)
    have d1 : ((2 : Nat) = 0) = False := by simp
    have d2 : ((2 : Nat) = 1) = False := by simp
    have d3 : ((3 : Nat) = 0) = False := by simp
    have d4 : ((3 : Nat) = 1) = False := by simp
    have d5 : ((3 : Nat) = 2) = False := by simp
    have d6 : ((1 : Nat) = 0) = False := by simp
    have e0 : nI 4 - nI 1 = nI 3 := by decide
    have e1 : nI 1 - nI 1 = nI 0 := by decide
    have e2 : nI 2 - nI 1 = nI 1 := by decide
    have e3 : nI 3 - nI 1 = nI 2 := by decide
    simp (disch := first | with_reducible assumption | exact cat_int | exact cat_ref | exact cat_null | exact cat_ra | exact Nat.le_of_ble_eq_true rfl | (simp (disch := omega) only [hK_sI, hR_sI, hN_sI, hA_sI, hQ_sI, hL_sI, hn_sI, hK_sR, hI_sR, hN_sR, hA_sR, hQ_sR, hL_sR, hn_sR, hK_sA, hI_sA, hR_sA, hN_sA, hQ_sA, hL_sA, hn_sA, hK_sQ, hI_sQ, hR_sQ, hN_sQ, hA_sQ, hL_sQ, hn_sQ, hK_sL, hI_sL, hR_sL, hN_sL, hA_sL, hQ_sL, hn_sL, hK_cpA, hI_cpA, hR_cpA, hN_cpA, hQ_cpA, hL_cpA, hn_cpA, hK_bump, hI_bump, hR_bump, hN_bump, hA_bump, hQ_bump, hL_bump, hn_bump, hI_sI, hR_sR, hA_sA, hQ_sQ, hL_sL, hA_cpA, isS, cat_int, cat_ref, cat_null, cat_ra, wds_nil, wds_int, wds_ref, wds_long, wds_ra, nz5, nz7, nz2, idxN, inAN, if_true, if_false, b00, b11, b01, eq_self, true_or, or_true, false_or, or_false, true_and, and_true, false_and, and_false, not_true, not_false_eq_true, k0, k47, n47, r98, hct, q0, q1, q2, q3, rk, kf0, kf1, kf2, kf3, d1, d2, d3, d4, d5, d6, e0, e1, e2, e3]; done) | omega) only [iX6_save_0, iX6_save_1, iX6_save_4, iX6_save_5, iX6_save_8, iX6_save_9, iX6_save_12, iX6_save_13, iX6_save_14, iX6_save_15, iX6_save_16, iX6_save_17, iX6_save_18, iX6_save_19, iX6_save_22, iX6_save_23, iX6_save_26, iX6_save_27, iX6_save_28, iX6_save_29, iX6_save_30, iX6_save_33, iX6_save_34, iX6_save_35, iX6_save_36, iX6_save_39, iX6_save_42, iX6_save_43, iX6_save_46, iX6_save_47, iX6_save_48, iX6_save_49, iX6_save_50, iX6_save_50i, iX6_save_51, iX6_save_54, iX6_save_55, iX6_save_56, ↓reduceIte, ofN, reduceCtorEq, Bool.false_eq_true, Nat.reduceAdd, Nat.reduceMul, Nat.reduceEqDiff, Nat.reduceLeDiff, Nat.reduceLT, le_nlt, ite_not, Nat.lt_irrefl, Decidable.not_not, kn1, kn0, knite, isS, getS, cat_int, cat_ref, cat_null, cat_ra, wds_nil, wds_int, wds_ref, wds_long, wds_ra, b0, b01, b00, b11, b10, if_true, if_false, ite_self, not_true, not_false_eq_true, true_or, or_true, false_or, or_false, true_and, and_true, false_and, and_false, eq_self, idxN, inAN, nI_add, nI_mul, nI_sub, nz5, nz7, nz2, nI_ltN, Nat.add_zero, Nat.zero_add, hK_sI, hR_sI, hN_sI, hA_sI, hQ_sI, hL_sI, hn_sI, hK_sR, hI_sR, hN_sR, hA_sR, hQ_sR, hL_sR, hn_sR, hK_sA, hI_sA, hR_sA, hN_sA, hQ_sA, hL_sA, hn_sA, hK_sQ, hI_sQ, hR_sQ, hN_sQ, hA_sQ, hL_sQ, hn_sQ, hK_sL, hI_sL, hR_sL, hN_sL, hA_sL, hQ_sL, hn_sL, hK_cpA, hI_cpA, hR_cpA, hN_cpA, hQ_cpA, hL_cpA, hn_cpA, hK_bump, hI_bump, hR_bump, hN_bump, hA_bump, hQ_bump, hL_bump, hn_bump, hI_sI, hR_sR, hA_sA, hQ_sQ, hL_sL, hA_cpA, k0, k47, n47, r98, hct, q0, q1, q2, q3, rk, kf0, kf1, kf2, kf3, d1, d2, d3, d4, d5, d6, e0, e1, e2, e3]
    refine Ev_mono (save_tail (s := s) (sv := fun i => sv (i + 1)) (f := fun i => if i = 3 then f 0 else f (i + 1)) (m0 := 3) (tx := tx) (len := len) ?_ ?_ ?_ (by omega) ?_ ?_ ?_ ?_ ?_ l9) ?_
    · exact LayF_to hy (by rfl) (by rfl) (by rfl)
    · intro a ha
      exact LaySt_to (hB a ha) (by rfl) (by rfl) (by rfl) (fun i hi => by funext j; simp [hQ_sI, hQ_sQ, hi]) (by unfold isB at ha; omega) (by unfold isB at ha; omega)
    · refine ⟨fun i hi => ?_, fun i j hi hj e => ?_⟩
      · have : i = 0 ∨ i = 1 ∨ i = 2 ∨ i = 3 := by omega
        rcases this with z | z | z | z <;> subst z <;> refine ⟨by simp [hQ_sI, hQ_sQ], ?_⟩
        · exact (hf.1 1 (by omega)).2
        · exact (hf.1 2 (by omega)).2
        · exact (hf.1 3 (by omega)).2
        · exact (hf.1 0 (by omega)).2
      · by_cases z1 : i = 3 <;> by_cases z2 : j = 3 <;> simp only [z1, z2, if_true, if_false] at e
        · omega
        · have := hf.2 _ _ (by omega) (by omega) e; omega
        · have := hf.2 _ _ (by omega) (by omega) e; omega
        · have := hf.2 _ _ (by omega) (by omega) e; omega
    · simp [hI_sI, hI_sQ]
    · refine Rl.eq R (fun F i h1 h2 => ?_) (fun i j h1 h2 => ?_)
      · rw [hI_sI, if_neg (by omega)]; simp only [hI_sQ]
      · simp only [hA_sI, hA_sQ]
    · intro i hi
      have hb := (hf.1 (i + 1) (by omega)).2
      show RlS _ (if i = 3 then f 0 else f (i + 1)) _
      rw [if_neg (by omega)]
      refine Rl.eq (hsv (i + 1) (by omega)) (fun F j h1 h2 => ?_) (fun i j h1 h2 => ?_)
      · rw [hI_sI, if_neg (by unfold isVb at hb; omega)]; simp only [hI_sQ]
      · simp only [hA_sI, hA_sQ]
    · rw [← ht]; funext j; simp only [hA_sI, hA_sQ]
    · simp [hI_sI, hI_sQ]; exact hl
    · rintro z ⟨h', e, f1, fo, f2, f3, c'⟩
      refine ⟨h', e, FrC.tr ⟨by rfl, by rfl, by rfl, by rfl, by rfl, fun i hi => by funext j; simp [hQ_sI, hQ_sQ, hi], fun F i hi => ?_, fun i j hi => by simp only [hA_sI, hA_sQ]⟩ f1, ⟨fun F => (fo.1 F).trans (by rw [hI_sI, if_neg (by omega)]; simp only [hI_sQ]), fun i j h1 h2 => (fo.2 i j h1 h2).trans (by simp only [hA_sI, hA_sQ])⟩, f2, f3, ?_⟩
      · rw [hI_sI, if_neg (by omega)]; simp only [hI_sQ]
      · have e2 : push 4 sv s = fun i => if i = 3 then s else sv (i + 1) := by funext i; exact if_pos rfl
        rw [e2]
        exact c'
  · have c4 : ¬ nI m = nI 4 := by rw [nI_eqN (by omega) (by omega)]; exact cm
    simp (disch := first | with_reducible assumption | exact cat_int | exact cat_ref | exact cat_null | exact cat_ra | exact Nat.le_of_ble_eq_true rfl | (simp (disch := omega) only [hK_sI, hR_sI, hN_sI, hA_sI, hQ_sI, hL_sI, hn_sI, hK_sR, hI_sR, hN_sR, hA_sR, hQ_sR, hL_sR, hn_sR, hK_sA, hI_sA, hR_sA, hN_sA, hQ_sA, hL_sA, hn_sA, hK_sQ, hI_sQ, hR_sQ, hN_sQ, hA_sQ, hL_sQ, hn_sQ, hK_sL, hI_sL, hR_sL, hN_sL, hA_sL, hQ_sL, hn_sL, hK_cpA, hI_cpA, hR_cpA, hN_cpA, hQ_cpA, hL_cpA, hn_cpA, hK_bump, hI_bump, hR_bump, hN_bump, hA_bump, hQ_bump, hL_bump, hn_bump, hI_sI, hR_sR, hA_sA, hQ_sQ, hL_sL, hA_cpA, isS, cat_int, cat_ref, cat_null, cat_ra, wds_nil, wds_int, wds_ref, wds_long, wds_ra, nz5, nz7, nz2, idxN, inAN, if_true, if_false, b00, b11, b01, eq_self, true_or, or_true, false_or, or_false, true_and, and_true, false_and, and_false, not_true, not_false_eq_true, k0, hct, c4]; done) | omega) only [iX6_save_0, iX6_save_1, iX6_save_4, iX6_save_5, ↓reduceIte, ofN, reduceCtorEq, Bool.false_eq_true, Nat.reduceAdd, Nat.reduceMul, Nat.reduceEqDiff, Nat.reduceLeDiff, Nat.reduceLT, le_nlt, ite_not, Nat.lt_irrefl, Decidable.not_not, kn1, kn0, knite, isS, getS, cat_int, cat_ref, cat_null, cat_ra, wds_nil, wds_int, wds_ref, wds_long, wds_ra, b0, b01, b00, b11, b10, if_true, if_false, ite_self, not_true, not_false_eq_true, true_or, or_true, false_or, or_false, true_and, and_true, false_and, and_false, eq_self, idxN, inAN, nI_add, nI_mul, nI_sub, nz5, nz7, nz2, nI_ltN, Nat.add_zero, Nat.zero_add, hK_sI, hR_sI, hN_sI, hA_sI, hQ_sI, hL_sI, hn_sI, hK_sR, hI_sR, hN_sR, hA_sR, hQ_sR, hL_sR, hn_sR, hK_sA, hI_sA, hR_sA, hN_sA, hQ_sA, hL_sA, hn_sA, hK_sQ, hI_sQ, hR_sQ, hN_sQ, hA_sQ, hL_sQ, hn_sQ, hK_sL, hI_sL, hR_sL, hN_sL, hA_sL, hQ_sL, hn_sL, hK_cpA, hI_cpA, hR_cpA, hN_cpA, hQ_cpA, hL_cpA, hn_cpA, hK_bump, hI_bump, hR_bump, hN_bump, hA_bump, hQ_bump, hL_bump, hn_bump, hI_sI, hR_sR, hA_sA, hQ_sQ, hL_sL, hA_cpA, k0, hct, c4]
    refine Ev_mono (save_tail hy hB hf (by omega) hct R hsv ht hl l9) ?_
    rintro z ⟨h', e, f1, fo, f2, f3, c'⟩
    refine ⟨h', e, f1, fo, f2, f3, ?_⟩
    have e1 : pushN m = m + 1 := if_neg cm
    have e2 : push m sv s = fun i => if i = m then s else sv i := by funext i; exact if_neg cm
    rw [e1, e2]
    exact c'
theorem s_save (c : CR h s m sv tx len) : Ev (ev L xs mdX6_save 0 [.ref 0, .null, .null] [] h) (fun z => ∃ h', z = .inl (none, h') ∧ FrC h h' ∧ hc h' = hc h ∧ hs h' = hs h ∧ CR h' s (pushN m) (push m sv s) tx len) := by
  refine Ev_mono (s_saveO c) ?_
  rintro z ⟨h', e, f1, fo, f2, f3, c'⟩
  exact ⟨h', e, f1, f2, f3, c'⟩
end
