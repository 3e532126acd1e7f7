/-! BOTH SIDES TOGETHER -/
def FrW (h h' : AH) : Prop := hK h' = hK h ∧ hR h' = hR h ∧ hN h' = hN h ∧ hn h' = hn h ∧ (∀ F i, 151 ≤ i → hI h' F i = hI h F i) ∧ ∀ i j, 151 ≤ i → hA h' i j = hA h i j
def WK (h : AH) (s : SvT) (m : Nat) (sv : Nat → SvT) (tx : Rw) (len k : Nat) (v : Int32) (z : Res) : Prop := ∃ h', z = .inl (some (.int (nI k)), h') ∧ FrW h h' ∧ CR h' s m sv tx len ∧ hc h' ≤ hc h + 1 ∧ hs h' ≤ hs h + 6 ∧ (k = 0 → hL h' 160 0 = v.toInt64)
def LR (h : AH) (s : SvT) (m : Nat) (sv : Nat → SvT) (tx : Rw) (len B : Nat) : Prop := CR h s m sv tx len ∧ MR h s m sv tx len ∧ Iv s B ∧ ∀ i, i < m → Iv (sv i) B
section
variable {L : Nat} {xs : Nat → Int32} {h h1 h2 : AH} {s s' : SvT} {m m' len : Nat} {sv sv' : Nat → SvT} {tx : Rw} {r : Rw} {H P G n B : Nat}
theorem CR.to6 (c : CR h s m sv tx len) (k : hK h2 = hK h) (r : hR h2 = hR h) (n : hN h2 = hN h) (q : hQ h2 = hQ h) (i : hI h2 = hI h) (a : hA h2 = hA h) : CR h2 s m sv tx len := by
  obtain ⟨c1, c2, c3, c4, c5, ⟨g, c6, c7⟩, c8, c9, c10⟩ := c
  refine ⟨LayF_to c1 k r n, fun b hb => LaySt_to (c2 b hb) k r n (fun i _ => by rw [q]) (by unfold isB at hb; omega) (by unfold isB at hb; omega), Rl.eq c3 (fun F j _ _ => by rw [i]) (fun j l _ _ => by rw [a]), c4, by rw [i]; exact c5, ⟨g, ⟨fun j hj => by rw [q]; exact c6.1 j hj, c6.2⟩, fun j hj => Rl.eq (c7 j hj) (fun F j _ _ => by rw [i]) (fun j l _ _ => by rw [a])⟩, by rw [a]; exact c8, by rw [i]; exact c9, c10⟩
theorem CR.bump (c : CR h s m sv tx len) : CR (bump h) s m sv tx len := c.to6 (by rfl) (by rfl) (by rfl) (by rfl) (by rfl) (by rfl)
theorem CR.sL {a j : Nat} {v : Int64} (c : CR h s m sv tx len) : CR (sL h a j v) s m sv tx len := c.to6 (by rfl) (by rfl) (by rfl) (by rfl) (by rfl) (by rfl)
theorem CR.frM (c : CR h s m sv tx len) (f : Fr inM h h2) : CR h2 s m sv tx len := by
  have z : ∀ i, i < 151 → ¬ inM i := fun i hi hm => by unfold inM at hm; omega
  obtain ⟨c1, c2, c3, c4, c5, ⟨g, c6, c7⟩, c8, c9, c10⟩ := c
  refine ⟨f.y c1, fun b hb => f.st (c2 b hb), Rl.fr c3 f (fun i h1 h2 => z i (by omega)), c4, by rw [f.fi (z 0 (by omega))]; exact c5, ⟨g, ⟨fun j hj => by rw [f.qq]; exact c6.1 j hj, c6.2⟩, fun j hj => Rl.fr (c7 j hj) f (fun i h1 h2 => z i ?_)⟩, ?_, by rw [f.fi (z 54 (by omega))]; exact c9, c10⟩
  · have v := (c6.1 j (by omega)).2
    unfold isVb at v
    omega
  · rw [← c8]; funext j; exact f.ar (z 55 (by omega))
theorem FrW.rf : FrW h h := ⟨Eq.refl _, Eq.refl _, Eq.refl _, Eq.refl _, fun _ _ _ => Eq.refl _, fun _ _ _ => Eq.refl _⟩
theorem FrC.w (f : FrC h h2) : FrW h h2 := ⟨f.1, f.2.1, f.2.2.1, f.2.2.2.1, f.2.2.2.2.2.2.1, f.2.2.2.2.2.2.2⟩
theorem MR.frW (c : MR h s m sv tx len) (f : FrW h h2) : MR h2 s m sv tx len := by
  obtain ⟨k, r, n, _, i, a⟩ := f
  exact c.re (LayF_to c.y k r n) (funext fun j => a 152 j (by omega)) (funext fun j => a 154 j (by omega)) (funext fun j => a 155 j (by omega)) (i _ _ (by omega)) (i _ _ (by omega)) (i _ _ (by omega))
theorem OkC_id {v : Option Value} (c : CR h s m sv tx len) : OkC h s m sv tx len v (.inl (v, h)) := ⟨h, rfl, FrC.rf, rfl, rfl, c⟩
theorem WK_thr {k : Nat} {v : Int32} (c : CR h s m sv tx len) (hk : ¬ k = 0) : WK h s m sv tx len k v (.inl (some (.int (nI k)), bump h)) :=
  ⟨_, rfl, FrW.rf, c.bump, by show hc h + 1 ≤ hc h + 1; omega, by show hs h + 6 ≤ hs h + 6; omega, fun z => absurd z hk⟩
theorem WK_ok {v u : Int32} (o : OkC h s m sv tx len (some (.int v)) (.inl (some (.int u), h1))) : WK h s m sv tx len 0 v (.inl (some (.int (nI 0)), sL h1 160 0 u.toInt64)) := by
  obtain ⟨h', e, f, e1, e2, c⟩ := o
  cases e
  refine ⟨_, rfl, f.w, c.sL, ?_, ?_, fun _ => ?_⟩
  · show hc h1 ≤ hc h + 1
    omega
  · show hs h1 ≤ hs h + 6
    omega
  · rw [hL_sL, if_pos ⟨rfl, rfl⟩]
theorem lg_self {x : Int64} : lg_cmp x x = nI 0 := by
  unfold lg_cmp
  simp
  try decide
theorem dc_self {x : UInt64} (hx : Jvm.FP.Core.dIsNaN x = false) : Op.cmpValue (FP.dcmp x x) .l = nI 0 := by
  have e : FP.dcmp x x = some .eq := Jvm.FP.Core.dcmp_self ((Jvm.FP.Core.notNaN_iff x).mp hx)
  rw [e]
  rfl
theorem hs_s {md : MD} {pc q k i : Nat} {Ls : List Value} {E : String} (d1 : decode (mB md) pc = .ok (.invokevirtual i, 3)) (hf : hfind pc E (mH md) = some q) (h8 : mC md = 8) (d2 : decode (mB md) q = .ok (.astore k, 2)) (hk : k < mM md) (hc9 : catOK Ls k = true) : hstep md pc Ls E = some (q + 2, Ls.set k .null) := by
  have e1 : isV md pc = true := by
    unfold isV
    rw [d1]
    rfl
  have e2 : hstep md pc Ls E = hstep0 md pc Ls E := if_pos e1
  rw [e2]
  unfold hstep0
  rw [hf]
  show (if mC md = 8 then _ else _) = _
  rw [if_pos h8, d2]
  exact if_pos ⟨hk, hc9⟩
theorem hs_n {md : MD} {pc q i : Nat} {k : Fin 4} {Ls : List Value} {E : String} (d1 : decode (mB md) pc = .ok (.invokevirtual i, 3)) (hf : hfind pc E (mH md) = some q) (h8 : mC md = 8) (d2 : decode (mB md) q = .ok (.astore_n k, 1)) (hk : (k : Nat) < mM md) (hc9 : catOK Ls k = true) : hstep md pc Ls E = some (q + 1, Ls.set k .null) := by
  have e1 : isV md pc = true := by
    unfold isV
    rw [d1]
    rfl
  have e2 : hstep md pc Ls E = hstep0 md pc Ls E := if_pos e1
  rw [e2]
  unfold hstep0
  rw [hf]
  show (if mC md = 8 then _ else _) = _
  rw [if_pos h8, d2]
  exact if_pos ⟨hk, hc9⟩
theorem kx_s {α : Type} {p : Nat} {l : List Value} {f : Nat → List Value → Option α} : kx (some (p, l)) f = f p l := Eq.trans rfl rfl
theorem d_thrown {k : Int32} (y : LayF h) (e : hI h 112 151 = k) : ev L xs mdX7_thrown 0 [.ref 151] [] h = some (.inl (some (.int k), h)) := by
  simp (disch := first | with_reducible assumption | exact cat_int | exact cat_ref | exact cat_null | exact cat_ra | exact Nat.le_of_ble_eq_true rfl | (simp (disch := omega) only [hK_sI, hR_sI, hN_sI, hA_sI, hQ_sI, hL_sI, hn_sI, hK_sR, hI_sR, hN_sR, hA_sR, hQ_sR, hL_sR, hn_sR, hK_sA, hI_sA, hR_sA, hN_sA, hQ_sA, hL_sA, hn_sA, hK_sQ, hI_sQ, hR_sQ, hN_sQ, hA_sQ, hL_sQ, hn_sQ, hK_sL, hI_sL, hR_sL, hN_sL, hA_sL, hQ_sL, hn_sL, hK_cpA, hI_cpA, hR_cpA, hN_cpA, hQ_cpA, hL_cpA, hn_cpA, hK_bump, hI_bump, hR_bump, hN_bump, hA_bump, hQ_bump, hL_bump, hn_bump, hI_sI, hR_sR, hA_sA, hQ_sQ, hL_sL, hA_cpA, isS, cat_int, cat_ref, cat_null, cat_ra, wds_nil, wds_int, wds_ref, wds_long, wds_ra, nz5, nz7, nz2, idxN, inAN, if_true, if_false, b00, b11, b01, eq_self, true_or, or_true, false_or, or_false, true_and, and_true, false_and, and_false, not_true, not_false_eq_true, Y_k151 y, e]; done) | omega) only [iX7_thrown_0, iX7_thrown_1, iX7_thrown_4, ↓reduceIte, ofN, reduceCtorEq, Bool.false_eq_true, Nat.reduceAdd, Nat.reduceMul, Nat.reduceEqDiff, Nat.reduceLeDiff, Nat.reduceLT, le_nlt, ite_not, Nat.lt_irrefl, Decidable.not_not, kn1, kn0, knite, isS, getS, cat_int, cat_ref, cat_null, cat_ra, wds_nil, wds_int, wds_ref, wds_long, wds_ra, b0, b01, b00, b11, b10, if_true, if_false, ite_self, not_true, not_false_eq_true, true_or, or_true, false_or, or_false, true_and, and_true, false_and, and_false, eq_self, idxN, inAN, nI_add, nI_mul, nI_sub, nz5, nz7, nz2, nI_ltN, Nat.add_zero, Nat.zero_add, hK_sI, hR_sI, hN_sI, hA_sI, hQ_sI, hL_sI, hn_sI, hK_sR, hI_sR, hN_sR, hA_sR, hQ_sR, hL_sR, hn_sR, hK_sA, hI_sA, hR_sA, hN_sA, hQ_sA, hL_sA, hn_sA, hK_sQ, hI_sQ, hR_sQ, hN_sQ, hA_sQ, hL_sQ, hn_sQ, hK_sL, hI_sL, hR_sL, hN_sL, hA_sL, hQ_sL, hn_sL, hK_cpA, hI_cpA, hR_cpA, hN_cpA, hQ_cpA, hL_cpA, hn_cpA, hK_bump, hI_bump, hR_bump, hN_bump, hA_bump, hQ_bump, hL_bump, hn_bump, hI_sI, hR_sR, hA_sA, hQ_sQ, hL_sL, hA_cpA, Y_k151 y, e]
/-! more that is pure -/
theorem exK_all {t : Rw} {s : SvT} (ok : rowOK s.1 s.2.1 s.2.2.1 s.2.2.2.1 s.2.2.2.2) (iv : Iv s B) : ∀ i, (∀ j, j < i → ordE t len (posK t len j) = none) → rowOK (exK t len s i).1 (exK t len s i).2.1 (exK t len s i).2.2.1 (exK t len s i).2.2.2.1 (exK t len s i).2.2.2.2 ∧ Iv (exK t len s i) (B + i)
  | 0, _ => ⟨ok, iv⟩
  | i + 1, ho => by
    obtain ⟨o1, i1⟩ := exK_all ok iv i (fun j hj => ho j (by omega))
    have e : exK t len s (i + 1) = (exo t len (posK t len i) (exK t len s i)).getD (exK t len s i) := rfl
    rw [e]
    cases ex : exo t len (posK t len i) (exK t len s i) with
    | none => exact ⟨o1, i1.mono (by omega)⟩
    | some s' => exact ⟨car_ok (ho i (by omega)) ex o1 o1.2.2.2.1, Iv_exo o1.2.1 o1.2.2.1 (ho i (by omega)) ex i1⟩
theorem missed_eq {g : Nat} {y : Int32} (hG : G ≤ 10) (hP : P ≤ 8) (hH : H ≤ 6) (hO : ownOK r P G) (e2 : rng y 3000 = true) : (if y < r (99 + 9 * g) then nI 0 else nI (opD (pu r (99 + 9 * g) (y + nI 1)) y H P G n) - nI (opD r y H P G n)) = nI (opI r y (some g) H P G n) - nI (opD r y H P G n) := by
  by_cases c : y < r (99 + 9 * g)
  · rw [if_pos c]
    have e : wlI r y (some g) = wl r y := by
      funext j
      unfold wlI wl
      by_cases cj : j = g
      · subst cj
        simp [c]
      · have : ¬ g = j := fun z => cj z.symm
        simp [this]
    have e3 : opI r y (some g) H P G n = opD r y H P G n := by
      unfold opI opD opn
      rw [e]
    rw [e3, Int32.sub_self]
    rfl
  · rw [if_neg c]
    have y1 : y < y + nI 1 := by
      have b := rng_t e2
      obtain ⟨d, _, d2, ed⟩ := i32_rng (by omega) (by omega) b.1 b.2
      rw [ed, nI_add, nI_ltN (by omega) (by omega)]
      omega
    have sim : ∀ d2, SimL (lookL r (wlI r y (some g)) (nee r H y d2) P G n) (lookL (pu r (99 + 9 * g) (y + nI 1)) (wl (pu r (99 + 9 * g) (y + nI 1)) y) (nee (pu r (99 + 9 * g) (y + nI 1)) H y d2) P G n) G := by
      intro d2
      have e : ∀ j, ¬ j = 99 + 9 * g → pu r (99 + 9 * g) (y + nI 1) j = r j := fun j hj => if_neg hj
      refine look_sim hG hP (fun k _ => e _ (by omega)) (fun k _ => ⟨e _ (by omega), e _ (by omega), e _ (by omega)⟩) (fun p _ => ⟨e _ (by omega), e _ (by omega)⟩) hO (fun j _ => ?_) (fun p _ => nee_congr hH (fun k h1 h2 => e k (by omega)) (e _ (by omega)))
      unfold wl wlI
      by_cases cj : j = g
      · subst cj
        have e5 : pu r (99 + 9 * j) (y + nI 1) (99 + 9 * j) = y + nI 1 := if_pos rfl
        rw [e5]
        simp [y1]
      · have : ¬ g = j := fun z => cj z.symm
        rw [e _ (by omega)]
        simp [this]
    have e3 : opD (pu r (99 + 9 * g) (y + nI 1)) y H P G n = opI r y (some g) H P G n := by
      unfold opI opD opn
      rw [(sim (nI 0)).2.2.1, (sim (nI 1)).2.2.1]
    rw [e3]
theorem Rl.agr {a : Nat} {r' : Rw} (R : Rl h a r H P G n) (e : agr r r') : Rl h a r' H P G n := by
  obtain ⟨a1, a2, a3, a4, a5, a6, a7, a8, a9, a10, a11, a12, a13⟩ := R
  refine ⟨a1, a2, a3, a4, a5, a6, a7, a8, by rw [e _ (by omega)]; exact a9, by rw [e _ (by omega)]; exact a10, fun i hi => ?_, fun p hp k hk => ?_, fun g hg k hk => ?_⟩
  · rw [e _ (by omega), e _ (by omega)]; exact a11 i hi
  · have := sw_lt hk
    rw [e _ (by omega)]; exact a12 p hp k hk
  · rw [e _ (by omega)]; exact a13 g hg k hk
theorem cut_agr {f : Rw} : agr f (cutR f r) := fun k hk => if_pos hk
end
