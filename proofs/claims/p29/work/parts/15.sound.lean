/-! SOUNDNESS, by the fuel -/
section
variable {l : Launch} {L : Nat} {xs : Nat → Int32} {m : MD} {pc : Nat} {Ls st : List Value} {h : AH} {r : Res} {a : Act}
/-- what is left of a run behind an act -/
def KA (l : Launch) (L : Nat) (xs : Nat → Int32) (m : MD) (pc : Nat) (Ls : List Value) (h : AH) (r : Res) (a : Act) : Prop := match a with
  | .inl q => Sem l L xs m q.1 q.2.1 q.2.2.1 q.2.2.2 r ∧ hc q.2.2.2 ≤ hc (rH r) ∧ hs q.2.2.2 ≤ hs (rH r)
  | .inr (.inl q) => r = .inl q
  | .inr (.inr (.inl q)) => (mV q.1 < mV m → ∃ r1, Sem l L xs q.1 0 (entL q.2.1 (mM q.1)) [] h r1 ∧ RunOK h r1 ∧ hc (rH r1) ≤ hc (rH r) ∧ hs (rH r1) ≤ hs (rH r) ∧
      ((∃ v h', r1 = .inl (v, h') ∧ Sem l L xs m (pc + 3) Ls (v.toList ++ q.2.2) h' r) ∨ ∃ E h' z, r1 = .inr (E, h') ∧ hstep m pc Ls E = some z ∧ Sem l L xs m z.1 z.2 [] h' r))
  | .inr (.inr (.inr q)) => r = .inr q
theorem KA_go {pc' : Nat} {Ls' st' : List Value} {h' : AH} (e : actGo pc' Ls' st' h' = some a) (K : KA l L xs m pc Ls h r a) : Sem l L xs m pc' Ls' st' h' r ∧ hc h' ≤ hc (rH r) ∧ hs h' ≤ hs (rH r) := by
  cases e
  exact K
theorem s_ldIn {k : Fin 4} (hd : decode (mB m) pc = .ok (.iload_n k, 1)) (e : ldI k 1 pc Ls st h = some a) (K : KA l L xs m pc Ls h r a) : Sem l L xs m pc Ls st h r := by
  unfold ldI at e
  split at e
  · rename_i hv; exact r_iload_n hd hv (KA_go e K).1
  · cases e
theorem s_ldI {k : Nat} (hd : decode (mB m) pc = .ok (.iload k, 2)) (e : ldI k 2 pc Ls st h = some a) (K : KA l L xs m pc Ls h r a) : Sem l L xs m pc Ls st h r := by
  unfold ldI at e
  split at e
  · rename_i hv; exact r_iload hd hv (KA_go e K).1
  · cases e
theorem s_ldLn {k : Fin 4} (hd : decode (mB m) pc = .ok (.lload_n k, 1)) (e : ldL k 1 pc Ls st h = some a) (K : KA l L xs m pc Ls h r a) : Sem l L xs m pc Ls st h r := by
  unfold ldL at e
  split at e
  · rename_i hv; exact r_lload_n hd hv (KA_go e K).1
  · cases e
theorem s_ldLw {k : Nat} (hd : decode (mB m) pc = .ok (.lload k, 2)) (e : ldL k 2 pc Ls st h = some a) (K : KA l L xs m pc Ls h r a) : Sem l L xs m pc Ls st h r := by
  unfold ldL at e
  split at e
  · rename_i hv; exact r_lload hd hv (KA_go e K).1
  · cases e
theorem s_stLw {k : Nat} (hd : decode (mB m) pc = .ok (.lstore k, 2)) (e : stL (mM m) k 2 pc Ls st h = some a) (K : KA l L xs m pc Ls h r a) : Sem l L xs m pc Ls st h r := by
  unfold stL at e
  split at e
  · split at e
    · rename_i hc9; exact r_lstore hd hc9.1 hc9.2 (KA_go e K).1
    · cases e
  · cases e
theorem s_ldD {k : Nat} (hd : decode (mB m) pc = .ok (.dload k, 2)) (e : ldD k 2 pc Ls st h = some a) (K : KA l L xs m pc Ls h r a) : Sem l L xs m pc Ls st h r := by
  unfold ldD at e
  split at e
  · rename_i hv; exact r_dload hd hv (KA_go e K).1
  · cases e
theorem s_ldAn {k : Fin 4} (hd : decode (mB m) pc = .ok (.aload_n k, 1)) (e : ldA k 1 pc Ls st h = some a) (K : KA l L xs m pc Ls h r a) : Sem l L xs m pc Ls st h r := by
  unfold ldA at e
  split at e
  · rename_i hv; exact r_aload_n hd hv (KA_go e K).1
  · rename_i hv; exact r_sload_n hd hv (KA_go e K).1
  · cases e
theorem s_ldA {k : Nat} (hd : decode (mB m) pc = .ok (.aload k, 2)) (e : ldA k 2 pc Ls st h = some a) (K : KA l L xs m pc Ls h r a) : Sem l L xs m pc Ls st h r := by
  unfold ldA at e
  split at e
  · rename_i hv; exact r_aload hd hv (KA_go e K).1
  · rename_i hv; exact r_sload hd hv (KA_go e K).1
  · cases e
theorem s_stIn {k : Fin 4} (hd : decode (mB m) pc = .ok (.istore_n k, 1)) (e : stI (mM m) k 1 pc Ls st h = some a) (K : KA l L xs m pc Ls h r a) : Sem l L xs m pc Ls st h r := by
  unfold stI at e
  split at e
  · split at e
    · rename_i hc9; exact r_istore_n hd hc9.1 hc9.2 (KA_go e K).1
    · cases e
  · cases e
theorem s_stI {k : Nat} (hd : decode (mB m) pc = .ok (.istore k, 2)) (e : stI (mM m) k 2 pc Ls st h = some a) (K : KA l L xs m pc Ls h r a) : Sem l L xs m pc Ls st h r := by
  unfold stI at e
  split at e
  · split at e
    · rename_i hc9; exact r_istore hd hc9.1 hc9.2 (KA_go e K).1
    · cases e
  · cases e
theorem s_stAn {k : Fin 4} (hd : decode (mB m) pc = .ok (.astore_n k, 1)) (e : stA (mM m) k 1 pc Ls st h = some a) (K : KA l L xs m pc Ls h r a) : Sem l L xs m pc Ls st h r := by
  unfold stA at e
  split at e
  · split at e
    · rename_i hc9; exact r_astore_n hd hc9.1 hc9.2 (KA_go e K).1
    · cases e
  · cases e
theorem s_stA {k : Nat} (hd : decode (mB m) pc = .ok (.astore k, 2)) (e : stA (mM m) k 2 pc Ls st h = some a) (K : KA l L xs m pc Ls h r a) : Sem l L xs m pc Ls st h r := by
  unfold stA at e
  split at e
  · split at e
    · rename_i hc9; exact r_astore hd hc9.1 hc9.2 (KA_go e K).1
    · cases e
  · cases e
theorem s_stLn {k : Fin 4} (hd : decode (mB m) pc = .ok (.lstore_n k, 1)) (e : stL (mM m) k 1 pc Ls st h = some a) (K : KA l L xs m pc Ls h r a) : Sem l L xs m pc Ls st h r := by
  unfold stL at e
  split at e
  · split at e
    · rename_i hc9; exact r_lstore_n hd hc9.1 hc9.2 (KA_go e K).1
    · cases e
  · cases e
theorem s_stD {k : Nat} (hd : decode (mB m) pc = .ok (.dstore k, 2)) (e : stD (mM m) k 2 pc Ls st h = some a) (K : KA l L xs m pc Ls h r a) : Sem l L xs m pc Ls st h r := by
  unfold stD at e
  split at e
  · split at e
    · rename_i hc9; exact r_dstore hd hc9.1 hc9.2 (KA_go e K).1
    · cases e
  · cases e
theorem s_getF {i : Nat} (hS : WFl (hn h) st) (hd : decode (mB m) pc = .ok (.getfield i, 3)) (e : getF (mC m) i pc Ls st h = some a) (K : KA l L xs m pc Ls h r a) : Sem l L xs m pc Ls st h r := by
  unfold getF at e
  split at e
  · rename_i hf
    rw [WFl_cons] at hS
    split at e
    · rename_i hk
      split at e
      · rename_i hr
        split at e
        · rename_i hj; exact r_getR hd hf (hS.1 _ rfl) hk hr hj (KA_go e K).1
        · cases e
      · rename_i hr; exact r_getI hd hf (hS.1 _ rfl) hk (Bool.eq_false_iff.mpr hr) (KA_go e K).1
    · cases e
  · cases e
theorem s_putF {i : Nat} (hS : WFl (hn h) st) (hd : decode (mB m) pc = .ok (.putfield i, 3)) (e : putF m i pc Ls st h = some a) (K : KA l L xs m pc Ls h r a) : Sem l L xs m pc Ls st h r := by
  unfold putF at e
  split at e
  · rename_i hf
    rw [WFl_cons, WFl_cons] at hS
    split at e
    · rename_i hk; exact r_putI hd hf (hS.2.1 _ rfl) hk.1 hk.2.2 hk.2.1 (KA_go e K).1
    · cases e
  · rename_i hf
    rw [WFl_cons, WFl_cons] at hS
    split at e
    · rename_i hk; exact r_putR hd hf (hS.2.1 _ rfl) hk.1 hk.2.2 hk.2.1 (KA_go e K).1
    · cases e
  · cases e
theorem s_iald (hS : WFl (hn h) st) (hd : decode (mB m) pc = .ok (.iaload, 1)) (e : iald L xs (mC m == 8) pc Ls st h = some a) (K : KA l L xs m pc Ls h r a) : Sem l L xs m pc Ls st h r := by
  unfold iald at e
  split at e
  · rw [WFl_cons, WFl_cons] at hS
    split at e
    · rename_i hk; exact r_iald hd (hS.2.1 _ rfl) hk.1 hk.2 (KA_go e K).1
    · cases e
  · split at e
    · rename_i hk; exact r_sald hd (beq_iff_eq.mp hk.1) hk.2 (KA_go e K).1
    · cases e
  · cases e
theorem s_alen (hS : WFl (hn h) st) (hd : decode (mB m) pc = .ok (.arraylength, 1)) (e : alen L (mC m == 8) pc Ls st h = some a) (K : KA l L xs m pc Ls h r a) : Sem l L xs m pc Ls st h r := by
  unfold alen at e
  split at e
  · rw [WFl_cons] at hS
    split at e
    · rename_i hk; exact r_alen hd (hS.1 _ rfl) hk (KA_go e K).1
    · cases e
  · split at e
    · rename_i hk; exact r_slen hd (beq_iff_eq.mp hk) (KA_go e K).1
    · cases e
  · cases e
theorem s_iast (hS : WFl (hn h) st) (hd : decode (mB m) pc = .ok (.iastore, 1)) (e : iast pc Ls st h = some a) (K : KA l L xs m pc Ls h r a) : Sem l L xs m pc Ls st h r := by
  unfold iast at e
  split at e
  · rw [WFl_cons, WFl_cons, WFl_cons] at hS
    split at e
    · rename_i hk; exact r_iast hd (hS.2.2.1 _ rfl) hk.1 hk.2 (KA_go e K).1
    · cases e
  · cases e
theorem s_lald (hS : WFl (hn h) st) (hd : decode (mB m) pc = .ok (.laload, 1)) (e : lald pc Ls st h = some a) (K : KA l L xs m pc Ls h r a) : Sem l L xs m pc Ls st h r := by cases e
theorem s_last (hS : WFl (hn h) st) (hd : decode (mB m) pc = .ok (.lastore, 1)) (e : last pc Ls st h = some a) (K : KA l L xs m pc Ls h r a) : Sem l L xs m pc Ls st h r := by cases e
theorem s_aald (hS : WFl (hn h) st) (hd : decode (mB m) pc = .ok (.aaload, 1)) (e : aald pc Ls st h = some a) (K : KA l L xs m pc Ls h r a) : Sem l L xs m pc Ls st h r := by
  unfold aald at e
  split at e
  · rw [WFl_cons, WFl_cons] at hS
    split at e
    · rename_i hk
      split at e
      · rename_i hj; exact r_aald hd (hS.2.1 _ rfl) hk.1 hk.2 hj (KA_go e K).1
      · cases e
    · cases e
  · cases e
theorem s_aast (hS : WFl (hn h) st) (hd : decode (mB m) pc = .ok (.aastore, 1)) (e : aast pc Ls st h = some a) (K : KA l L xs m pc Ls h r a) : Sem l L xs m pc Ls st h r := by
  unfold aast at e
  split at e
  · rw [WFl_cons, WFl_cons, WFl_cons] at hS
    split at e
    · rename_i hk; exact r_aast hd (hS.2.2.1 _ rfl) (hS.1 _ rfl) hk.1 hk.2.1 hk.2.2 (KA_go e K).1
    · cases e
  · cases e
theorem Sem.thr {E : String} (ht : thrOK m pc E) : Sem l L xs m pc Ls [] h (.inr (E, bump h)) := by
  intro D ca b As p e R s mid args below meth c Q c0 s0 n0 A0 hC hE A H locs cells slots ls h1 h2 h3 h4 h5 h6
  obtain ⟨hx, hb, hr, hml, hown, hts, hlk, hnm9, htab, hRf, hRl, hK9, hG, hZ, hA9, hlaw, hcl9, hst9⟩ := id hC
  exact hE.2 A H locs cells slots pc ls E h rfl h2 h3 ht (by rw [hml]; exact h6.1)
theorem Sem.ret {v : Option Value} (hv : retOK (mB m) (mR m) pc v) : Sem l L xs m pc Ls v.toList h (.inl (v, h)) := by
  intro D ca b As p e R s mid args below meth c Q c0 s0 n0 A0 hC hE A H locs cells slots ls h1 h2 h3 h4 h5 h6
  have e9 : v.toList.map (tv A b) = v.toList := by
    cases v with
    | none => rfl
    | some w => cases w <;> first | rfl | exact hv.elim
  rw [e9]
  exact hE.1 A H locs cells slots pc ls v h rfl h2 h3 hv
theorem s_newO {i : Nat} (hL : WFl (hn h) Ls) (hS : WFl (hn h) st) (hw : WFh h) (hd : decode (mB m) pc = .ok (.new i, 3)) (e : newO m i pc Ls st h = some a) (K : KA l L xs m pc Ls h r a) : Sem l L xs m pc Ls st h r := by
  unfold newO at e
  split at e
  · rename_i hk; exact r_new hd hk hw hL hS (KA_go e K).2 (KA_go e K).1
  · split at e
    · rename_i is d3 d4
      split at e
      · rename_i ic d6 d9
        split at e
        · rename_i E hE
          split at e
          · rename_i hc9
            obtain ⟨c1, c2, c3, c4, c5⟩ := hc9
            cases e
            have hr : r = .inr (E, bump h) := K
            subst hr; subst c5
            obtain ⟨q, hq, hq2⟩ := List.any_eq_true.mp c2
            rw [beq_iff_eq] at hq2
            exact Sem.thr ⟨i, is, ic, q.2, hd, d3, Or.inl ⟨d4, d6, d9⟩, hE, by rw [← hq2]; exact hq, c1, c3, c4⟩
          · cases e
        · cases e
      · cases e
    · rename_i is d3 d4
      split at e
      · rename_i ic d6 d9
        split at e
        · rename_i E hE
          split at e
          · rename_i hc9
            obtain ⟨c1, c2, c3, c4, c5⟩ := hc9
            cases e
            have hr : r = .inr (E, bump h) := K
            subst hr; subst c5
            obtain ⟨q, hq, hq2⟩ := List.any_eq_true.mp c2
            rw [beq_iff_eq] at hq2
            exact Sem.thr ⟨i, is, ic, q.2, hd, d3, Or.inr ⟨d4, d6, d9⟩, hE, by rw [← hq2]; exact hq, c1, c3, c4⟩
          · cases e
        · cases e
      · cases e
    · cases e
theorem s_newA {t : ArrayType} (hL : WFl (hn h) Ls) (hS : WFl (hn h) st) (hw : WFh h) (hd : decode (mB m) pc = .ok (.newarray t, 2)) (e : newA t pc Ls st h = some a) (K : KA l L xs m pc Ls h r a) : Sem l L xs m pc Ls st h r := by
  unfold newA at e
  split at e
  · rw [WFl_cons] at hS
    split at e
    · rename_i hc9; exact r_newI hd hc9.1 hc9.2 hw hL hS.2 (KA_go e K).2 (KA_go e K).1
    · cases e
  · cases e
theorem s_newQ {i : Nat} (hL : WFl (hn h) Ls) (hS : WFl (hn h) st) (hw : WFh h) (hd : decode (mB m) pc = .ok (.anewarray i, 3)) (e : newQ m i pc Ls st h = some a) (K : KA l L xs m pc Ls h r a) : Sem l L xs m pc Ls st h r := by
  unfold newQ at e
  split at e
  · rename_i hk
    rw [WFl_cons] at hS
    split at e
    · rename_i hc9; exact r_newQ hd hk hc9.1 hc9.2 hw hL hS.2 (KA_go e K).2 (KA_go e K).1
    · cases e
  · cases e
theorem s_invS {i : Nat} (hl : l.stackTraces = false) (hL : WFl (hn h) Ls) (hS : WFl (hn h) st) (hd : decode (mB m) pc = .ok (.invokestatic i, 3)) (e : invS m i pc Ls st h = some a) (K : KA l L xs m pc Ls h r a) : Sem l L xs m pc Ls st h r := by
  unfold invS at e
  split at e
  · rename_i y mode n hm
    split at e
    · rename_i h8
      subst h8
      unfold copy5 at e
      split at e
      · rw [WFl_cons, WFl_cons, WFl_cons, WFl_cons, WFl_cons] at hS
        split at e
        · rename_i hc9
          obtain ⟨c1, c2, c3, c4, c5, c6, c7, c8, c9⟩ := hc9
          exact r_copy hd (hS.2.2.2.2.1 _ rfl) (hS.2.2.1 _ rfl) c1 c2 c3 c4 c5 c6 c7 c8 c9 (mres8 hm) (KA_go e K).1
        · cases e
      · cases e
    · split at e
      · rename_i h9
        subst h9
        unfold min9 at e
        split at e
        · split at e
          · rename_i hc9; exact r_min hd (KA_go e K).2 hc9.1 hc9.2 (mres9 hm) (KA_go e K).1
          · cases e
        · cases e
      · unfold clS at e
        split at e
        · rename_i hc9
          split at e
          · rename_i hmd
            cases e
            obtain ⟨r1, k1, k2, k3, k4, k5⟩ := K hc9.1
            rcases k5 with ⟨v, h', rfl, k6⟩ | ⟨E, h', z, rfl, k6, k7⟩
            · exact r_callS hl hd hmd hm hc9.1 hc9.2.1 hc9.2.2.1 hc9.2.2.2 hL hS k1 k2 ⟨k3, k4⟩ k6
            · have := (hstep_of k6).1
              unfold isV at this
              rw [hd] at this
              cases this
          · cases e
        · cases e
  · cases e
theorem s_invV {i : Nat} (hl : l.stackTraces = false) (hL : WFl (hn h) Ls) (hS : WFl (hn h) st) (hd : decode (mB m) pc = .ok (.invokevirtual i, 3)) (e : invV m i st h = some a) (K : KA l L xs m pc Ls h r a) : Sem l L xs m pc Ls st h r := by
  unfold invV at e
  split at e
  · rename_i y mode n hm
    split at e
    · rename_i hmd
      unfold clV at e
      split at e
      · rename_i a0 rest0 hdr
        split at e
        · rename_i hc9
          obtain ⟨c1, c2, c3, c4, c5, c6⟩ := hc9
          cases e
          obtain ⟨r1, k1, k2, k3, k4, k5⟩ := K c1
          rcases k5 with ⟨v, h', rfl, k6⟩ | ⟨E, h', z, rfl, k6, k7⟩
          · exact r_callV hl hd hmd hm hdr c1 c2 c3 c4 c5 c6 hL hS k1 k2 ⟨k3, k4⟩ k6
          · have hE : E ∈ exL := by
              have k6 := k6
              replace k6 := (hstep_of k6).2
              unfold hstep0 at k6
              split at k6
              · cases k6
              · rename_i hp hfd
                obtain ⟨pre, x, suf, e1, e2, e3, e4, e5⟩ := hfind_spec _ hfd
                exact absurd (eRes_ok e3).2.1 List.not_mem_nil
            exact r_callX hl hd hmd hm hdr c1 c2 c3 c4 c5 c6 hL hS k1 hE k2 ⟨k3, k4⟩ k6 k7
        · cases e
      · cases e
    · cases e
  · cases e
theorem s_invI {i : Nat} (hl : l.stackTraces = false) (hL : WFl (hn h) Ls) (hS : WFl (hn h) st) (hd : decode (mB m) pc = .ok (.invokespecial i, 3)) (e : invI m i pc Ls st h = some a) (K : KA l L xs m pc Ls h r a) : Sem l L xs m pc Ls st h r := by
  unfold invI at e
  split at e
  · rename_i y mode n hm
    split at e
    · rename_i h7
      subst h7
      split at e
      · split at e
        · rename_i hc9; exact r_objInit hd hc9.1 hc9.2 (mres7 hm) (KA_go e K).1
        · cases e
      · cases e
    · split at e
      · rename_i hmd
        unfold clV at e
        split at e
        · rename_i a0 rest0 hdr
          split at e
          · rename_i hc9
            obtain ⟨c1, c2, c3, c4, c5, c6⟩ := hc9
            cases e
            obtain ⟨r1, k1, k2, k3, k4, k5⟩ := K c1
            rcases k5 with ⟨v, h', rfl, k6⟩ | ⟨E, h', z, rfl, k6, k7⟩
            · exact r_callI hl hd hmd hm hdr c1 c2 c3 c4 hL hS k1 k2 ⟨k3, k4⟩ k6
            · have := (hstep_of k6).1
              unfold isV at this
              rw [hd] at this
              cases this
          · cases e
        · cases e
      · cases e
  · cases e
theorem s_retI (hd : decode (mB m) pc = .ok (.ireturn, 1)) (e : retI m st h = some a) (K : KA l L xs m pc Ls h r a) : Sem l L xs m pc Ls st h r := by
  unfold retI at e
  split at e
  · split at e
    · rename_i hc9
      cases e
      have hr : r = _ := K
      subst hr
      exact Sem.ret (v := some (.int _)) ⟨hd, hc9⟩
    · cases e
  · cases e
set_option maxHeartbeats 4000000 in
theorem stepI_sound {i : Instr} {len : Nat} (hl : l.stackTraces = false) (hL : WFl (hn h) Ls) (hS : WFl (hn h) st) (hw : WFh h) (hd : decode (mB m) pc = .ok (i, len)) (e : stepI L xs m pc Ls st h i len = some a) (K : KA l L xs m pc Ls h r a) : Sem l L xs m pc Ls st h r := by
  unfold stepI at e
  split at e
  · exact s_ldIn hd e K
  · exact s_ldI hd e K
  · exact s_ldAn hd e K
  · exact s_ldA hd e K
  · exact s_ldLn hd e K
  · exact s_ldLw hd e K
  · exact s_ldD hd e K
  · exact s_stIn hd e K
  · exact s_stI hd e K
  · exact s_stAn hd e K
  · exact s_stA hd e K
  · exact s_stLn hd e K
  · exact s_stLw hd e K
  · exact s_stD hd e K
  · exact r_iconst hd (KA_go e K).1
  · exact r_bipush hd (KA_go e K).1
  · exact r_sipush hd (KA_go e K).1
  · split at e
    · rename_i hk; subst hk; exact r_dconst1 hd (KA_go e K).1
    · split at e
      · rename_i hk0; subst hk0; exact r_dconst0 hd (KA_go e K).1
      · cases e
  · split at e
    · rename_i hk; exact r_ldc hd hk (KA_go e K).1
    · cases e
  · split at e
    · rename_i hk; exact r_ldcw hd hk (KA_go e K).1
    · cases e
  · split at e
    · rename_i hk; exact r_ldc2 hd hk (KA_go e K).1
    · cases e
  · exact s_getF hS hd e K
  · exact s_putF hS hd e K
  · exact s_iald hS hd e K
  · exact s_iast hS hd e K
  · exact s_lald hS hd e K
  · exact s_last hS hd e K
  · exact s_aald hS hd e K
  · exact s_aast hS hd e K
  · exact s_alen hS hd e K
  · unfold op2 at e; split at e
    · exact r_iadd hd (KA_go e K).1
    · cases e
  · unfold op2 at e; split at e
    · exact r_isub hd (KA_go e K).1
    · cases e
  · unfold op2 at e; split at e
    · exact r_imul hd (KA_go e K).1
    · cases e
  · unfold op2 at e; split at e
    · exact r_iand hd (KA_go e K).1
    · cases e
  · unfold op2 at e; split at e
    · exact r_ior hd (KA_go e K).1
    · cases e
  · unfold op2 at e; split at e
    · exact r_ixor hd (KA_go e K).1
    · cases e
  · unfold op2 at e; split at e
    · exact r_ishl hd (KA_go e K).1
    · cases e
  · unfold op2 at e; split at e
    · exact r_ishr hd (KA_go e K).1
    · cases e
  · unfold op2 at e; split at e
    · exact r_iushr hd (KA_go e K).1
    · cases e
  · split at e
    · split at e
      · cases e
      · rename_i hy; exact r_idiv hd hy (KA_go e K).1
    · cases e
  · split at e
    · split at e
      · cases e
      · rename_i hy; exact r_irem hd hy (KA_go e K).1
    · cases e
  · split at e
    · exact r_ineg hd (KA_go e K).1
    · cases e
  · unfold opL at e; split at e
    · exact r_ladd hd (KA_go e K).1
    · cases e
  · unfold opL at e; split at e
    · exact r_lmul hd (KA_go e K).1
    · cases e
  · split at e
    · exact r_i2l hd (KA_go e K).1
    · cases e
  · split at e
    · exact r_i2d hd (KA_go e K).1
    · cases e
  · split at e
    · exact r_lcmp hd (KA_go e K).1
    · cases e
  · split at e
    · exact r_dcmp hd (KA_go e K).1
    · cases e
  · split at e
    · split at e
      · rename_i hv; exact r_ddiv hd hv (KA_go e K).1
      · cases e
    · cases e
  · split at e
    · split at e
      · rename_i hv; exact r_dup hd hv (KA_go e K).1
      · cases e
    · cases e
  · split at e
    · split at e
      · rename_i hv; exact r_dup2 hd hv.1 hv.2 (KA_go e K).1
      · cases e
    · cases e
  · split at e
    · split at e
      · rename_i hv; exact r_pop hd hv (KA_go e K).1
      · cases e
    · cases e
  · split at e
    · rename_i hv
      split at e
      · rename_i hc9; exact r_iinc hd hv hc9.1 hc9.2 (KA_go e K).1
      · cases e
    · cases e
  · split at e
    · split at e
      · rename_i hj; exact r_if hd hj (KA_go e K).1
      · cases e
    · cases e
  · split at e
    · split at e
      · rename_i hj; exact r_icmp hd hj (KA_go e K).1
      · cases e
    · cases e
  · split at e
    · rename_i hj; exact r_goto hd hj (KA_go e K).1
    · cases e
  · split at e
    · split at e
      · rename_i ho
        split at e
        · rename_i hj; exact r_tsw hd ho hj (KA_go e K).1
        · cases e
      · cases e
    · cases e
  · split at e
    · split at e
      · rename_i hj; exact r_lsw hd hj.1 hj.2 (KA_go e K).1
      · cases e
    · cases e
  · exact s_newO hL hS hw hd e K
  · exact s_newA hL hS hw hd e K
  · exact s_newQ hL hS hw hd e K
  · exact s_invS hl hL hS hd e K
  · exact s_invV hl hL hS hd e K
  · exact s_invI hl hL hS hd e K
  · exact s_retI hd e K
  · split at e
    · split at e
      · rename_i hc9; cases e
        have hr : r = _ := K
        subst hr
        exact Sem.ret (v := some (.long _)) ⟨hd, hc9⟩
      · cases e
    · cases e
  · split at e
    · split at e
      · rename_i hc9; cases e
        have hr : r = _ := K
        subst hr
        exact Sem.ret (v := some (.double _)) ⟨hd, hc9⟩
      · cases e
    · cases e
  · split at e
    · rename_i hc9
      obtain ⟨c1, c2⟩ := hc9
      cases e
      have hr : r = _ := K
      subst hr; subst c2
      exact Sem.ret (v := none) ⟨hd, c1⟩
    · cases e
  · cases e
theorem sound (hl : l.stackTraces = false) : ∀ (n : Nat) (m : MD) (pc : Nat) (Ls st : List Value) (h : AH) (r : Res), WFl (hn h) Ls → WFl (hn h) st → WFh h → run L xs n m pc Ls st h = some r → Sem l L xs m pc Ls st h r
  | 0, _, _, _, _, _, _, _, _, _, e => by cases e
  | n + 1, m, pc, Ls, st, h, r, hL, hS, hw, e => by
    have hro := run_ok (L := L) (xs := xs) (n + 1) m pc Ls st h r hL hS hw e
    unfold run at e
    cases hs9 : stp L xs m pc Ls st h with
    | none => rw [hs9] at e; cases e
    | some a =>
      rw [hs9] at e
      have ho := stp_ok hL hS hw hs9
      have key : KA l L xs m pc Ls h r a := by
        rcases a with q | q | q | q
        · obtain ⟨o1, o2, o3, o4, o5, o6⟩ := ho
          have e : run L xs n m q.1 q.2.1 q.2.2.1 q.2.2.2 = some r := e
          have h9 := run_ok (L := L) (xs := xs) n _ _ _ _ _ _ o1 o2 o3 e
          exact ⟨sound hl n _ _ _ _ _ _ o1 o2 o3 e, h9.2.2.1, h9.2.2.2.1⟩
        · cases e; rfl
        · obtain ⟨o1, o2⟩ := ho
          intro hlev
          replace e : kont (run L xs n q.1 0 (entL q.2.1 (mM q.1)) [] h) (fun v h' => run L xs n m (pc + 3) Ls (v.toList ++ q.2.2) h') (fun E h' => kx (hstep m pc Ls E) (fun pc' Ls' => run L xs n m pc' Ls' [] h')) = some r := e
          cases hr1 : run L xs n q.1 0 (entL q.2.1 (mM q.1)) [] h with
          | none => rw [hr1] at e; cases e
          | some w =>
            rw [hr1] at e
            have h9 := run_ok (L := L) (xs := xs) n _ _ _ _ _ _ (WFl_entL o1) WFl_nil hw hr1
            have p2 : hn h ≤ hn (rH w) := h9.2.1
            have hs1 := sound hl n _ _ _ _ _ _ (WFl_entL o1) WFl_nil hw hr1
            refine ⟨w, hs1, h9, ?_⟩
            rcases w with ⟨v, g⟩ | ⟨E, g⟩
            · have e : run L xs n m (pc + 3) Ls (v.toList ++ q.2.2) g = some r := e
              have o3 : WFl (hn g) Ls := WFl_le hL p2
              have o4 : WFl (hn g) (v.toList ++ q.2.2) := WFl_app (vOK_wf (h9.2.2.2.2.1 _ rfl)) (WFl_le o2 p2)
              have h10 := run_ok (L := L) (xs := xs) n _ _ _ _ _ _ o3 o4 h9.1 e
              exact ⟨h10.2.2.1, h10.2.2.2.1, Or.inl ⟨v, g, rfl, sound hl n _ _ _ _ _ _ o3 o4 h9.1 e⟩⟩
            · cases hh : hstep m pc Ls E with
              | none => simp only [kont, hh, kx] at e; cases e
              | some z =>
                simp only [kont, hh, kx] at e
                have o3 : WFl (hn g) z.2 := WFl_le (hstep_ok hL hh) p2
                have h10 := run_ok (L := L) (xs := xs) n _ _ _ _ _ _ o3 WFl_nil h9.1 e
                exact ⟨h10.2.2.1, h10.2.2.2.1, Or.inr ⟨E, g, z, rfl, hh, sound hl n _ _ _ _ _ _ o3 WFl_nil h9.1 e⟩⟩
        · cases e; rfl
      unfold stp at hs9
      split at hs9
      · rename_i q hd
        exact stepI_sound hl hL hS hw (i := q.1) (len := q.2) hd hs9 key
      · cases hs9
end
