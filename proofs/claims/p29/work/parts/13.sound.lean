/-! SOUNDNESS: a run of the abstract machine is a run of the machine -/
section
variable {l : Launch} {L : Nat} {xs : Nat → Int32} {m y : MD} {pc i n : Nat} {Ls st vs rest : List Value} {h h' : AH} {r : Res}
theorem wds_rev (l : List Value) : wds l.reverse = wds l := by
  unfold wds
  rw [List.map_reverse, List.sum_reverse]
theorem ow_cR {k : Nat} (hk : k < 8) : ow k = cR k := by
  rcases (show k = 0 ∨ k = 1 ∨ k = 2 ∨ k = 3 ∨ k = 4 ∨ k = 5 ∨ k = 6 ∨ k = 7 by omega) with rfl | rfl | rfl | rfl | rfl | rfl | rfl | rfl <;> rfl
theorem stack_split (A : Nat → Nat) (b n : Nat) (st : List Value) : st.map (tv A b) = ((st.take n).reverse.map (tv A b)).reverse ++ (st.drop n).map (tv A b) := by
  rw [List.map_reverse, List.reverse_reverse, ← List.map_append, List.take_append_drop]
theorem args_len (A : Nat → Nat) (b n : Nat) (st : List Value) (hn : n ≤ st.length) : ((st.take n).reverse.map (tv A b)).length = n := by
  rw [List.length_map, List.length_reverse, List.length_take]
  omega
theorem r_callS {v : Option Value} {mode : Nat} (hl : l.stackTraces = false) (hd : decode (mB m) pc = .ok (.invokestatic i, 3)) (hmd : mode = 0 ∨ mode = 3 ∨ mode = 6) (hm : mRes (mC m) i = some (y, mode, n)) (hlev : mV y < mV m) (hw8 : wds (st.drop n) ≤ 8) (hn9 : n ≤ st.length) (hwd : wds (st.take n) ≤ mM y)
    (hLs : WFl (hn h) Ls) (hst : WFl (hn h) st) (hS9 : Sem l L xs y 0 (entL (st.take n).reverse (mM y)) [] h (.inl (v, h'))) (hok : RunOK h (.inl (v, h'))) (hmo : hc h' ≤ hc (rH r) ∧ hs h' ≤ hs (rH r)) (K : Sem l L xs m (pc + 3) Ls (v.toList ++ st.drop n) h' r) : Sem l L xs m pc Ls st h r := by
  refine Sem.call (rest := st.drop n) hok hmo hLs (WFl_drop hst) (fun D ca b As p e R s mid args below meth c A H locs cells slots ls hC hz hP hD hS hc1 hs1 => ?_) K
  obtain ⟨hx, hb, hr, hml, hown, hts, hlk, hnm9, htab, hRf, hRl, hK9, hG, hZ, hA9, hlaw, hcl9, hst9⟩ := id hC
  have hlen : wds (st.take n).reverse ≤ mM y := by rw [wds_rev]; exact hwd
  refine ⟨((st.take n).reverse.map (tv A b)).toArray, ?_⟩
  rcases hmd with rfl | rfl | rfl
  · obtain ⟨⟨⟨c1, c5⟩, c2, c3, c4⟩, w1, w2, w3, w4, w5⟩ := mres0 hm
    refine va_runS (n := n) (As := (st.take n).reverse.map (tv A b)) (rest := (st.drop n).map (tv A b)) ⟨hx, hb, hml, hC.own, hts⟩ (met_ret (D := D) (ca := ca) (b := b) (A := A) (sz := H.size) hl hS9 hlen c3 c2 w4) (va_cwS n hts (GW_self ?_) rfl rfl rfl c4 ⟨by show mV y + 1 ≤ _; rw [hRf]; omega, by show 8 + (mM y + 11) + 35 * mV y ≤ _; exact Nat.le_trans (by omega) hRl⟩) ⟨PcC_blind, PcC_at hC hP hD hS c5⟩ rfl (args_len A b n st hn9) hz (stack_split A b n st) (lv_room (by rw [wds_tv]; exact hw8)) hd ⟨hc1, hs1⟩
    intro w hw
    simp only [va_wsS, wsM, List.cons_append, List.nil_append, List.mem_cons] at hw
    rcases hw with rfl | rfl | rfl | rfl | hw
    · exact w1
    · exact w5
    · exact w2
    · exact w3
    · exact hw
  · obtain ⟨⟨⟨c1, c5⟩, c2, c3, c4⟩, w1, w2, w3, w4, w5⟩ := mres3 hm
    refine va_runSN (n := n) (host := "CrossingPosts") (As := (st.take n).reverse.map (tv A b)) (rest := (st.drop n).map (tv A b)) ⟨hx, hb, hml, hC.own, hts⟩ (met_ret (D := D) (ca := ca) (b := b) (A := A) (sz := H.size) hl hS9 hlen c3 c2 w4) ⟨va_cnB n hts (GW_self ?_) rfl rfl rfl (hG.1 _ w1) (hts _ w2) c4 ⟨by show mV y + 1 ≤ _; rw [hRf]; omega, by show 8 + (mM y + 11) + 35 * mV y ≤ _; exact Nat.le_trans (by omega) hRl⟩, hts _ w5, trivial⟩ ⟨PcC_blind, PcC_at hC hP hD hS c5⟩ rfl (args_len A b n st hn9) hz (stack_split A b n st) (lv_room (by rw [wds_tv]; exact hw8)) hd ⟨hc1, hs1⟩
    intro w hw
    rcases List.mem_cons.mp hw with rfl | hw
    · exact w3
    · exact hw
  · obtain ⟨⟨⟨c1, c5⟩, c2, c3, c4⟩, w1, w2, w3, w5⟩ := mres6 hm
    refine vx_runSW (n := n) (As := (st.take n).reverse.map (tv A b)) (rest := (st.drop n).map (tv A b)) ⟨hx, hb, hml, hC.own, hts⟩ (met_retW (D := D) (ca := ca) (b := b) (A := A) (sz := H.size) hl hS9 hlen c3 c2) (vx_cwSW n hts (GW_self ?_) rfl rfl rfl c4 ⟨by show mV y + 1 ≤ _; rw [hRf]; omega, by show 8 + (mM y + 11) + 35 * mV y ≤ _; exact Nat.le_trans (by omega) hRl⟩) ⟨PcC_blind, PcC_at hC hP hD hS c5⟩ rfl (args_len A b n st hn9) hz (stack_split A b n st) (lv_room (by rw [wds_tv]; exact hw8)) hd ⟨hc1, hs1⟩
    intro w hw
    simp only [va_wsS, wsW, List.cons_append, List.nil_append, List.mem_cons] at hw
    rcases hw with rfl | rfl | rfl | rfl | hw
    · exact w1
    · exact w5
    · exact w2
    · exact w3
    · exact hw
theorem stack_splitV (A : Nat → Nat) (b n a : Nat) {st rest : List Value} (hd : st.drop n = .ref a :: rest) : st.map (tv A b) = ((st.take n).reverse.map (tv A b)).reverse ++ .ref (A a) :: rest.map (tv A b) := by
  rw [stack_split A b n st, hd]
  rfl
theorem r_callV {v : Option Value} {mode a : Nat} (hl : l.stackTraces = false) (hd : decode (mB m) pc = .ok (.invokevirtual i, 3)) (hmd : mode = 1 ∨ mode = 5) (hm : mRes (mC m) i = some (y, mode, n)) (hdr : st.drop n = .ref a :: rest) (hlev : mV y < mV m) (hw8 : wds rest ≤ 8) (hn9 : n ≤ st.length) (hwd : wds (st.take n) + 1 ≤ mM y) (hk : hK h a = mC y) (h8 : mC y < 8)
    (hLs : WFl (hn h) Ls) (hst : WFl (hn h) st) (hS9 : Sem l L xs y 0 (entL (.ref a :: (st.take n).reverse) (mM y)) [] h (.inl (v, h'))) (hok : RunOK h (.inl (v, h'))) (hmo : hc h' ≤ hc (rH r) ∧ hs h' ≤ hs (rH r)) (K : Sem l L xs m (pc + 3) Ls (v.toList ++ rest) h' r) : Sem l L xs m pc Ls st h r := by
  have hdw := WFl_drop (k := n) hst
  rw [hdr, WFl_cons] at hdw
  have ha : a < hn h := hdw.1 a rfl
  refine Sem.call (rest := rest) hok hmo hLs hdw.2 (fun D ca b As p e R s mid args below meth c A H locs cells slots ls hC hz hP hD hS hc1 hs1 => ?_) K
  obtain ⟨hx, hb, hr, hml, hown, hts, hlk, hnm9, htab, hRf, hRl, hK9, hG, hZ, hA9, hlaw, hcl9, hst9⟩ := id hC
  have hlen : wds (.ref a :: (st.take n).reverse) ≤ mM y := by
    show (List.map _ _).sum ≤ _
    rw [List.map_cons, List.sum_cons]
    have := wds_rev (st.take n)
    unfold wds at this hwd
    rw [this]
    show 1 + _ ≤ _
    omega
  obtain ⟨⟨⟨c1, c5⟩, c2, c3, c4⟩, w1, w2, w3, w4, w5, w6⟩ := mres1 hmd hm
  have hcc : (mN y).cls = cR (mC y) := by rw [c2, ow_cR h8]
  refine ⟨(Value.ref (A a) :: (st.take n).reverse.map (tv A b)).toArray, ?_⟩
  refine va_runV (n := n) (C := (mN y).cls) (As := (st.take n).reverse.map (tv A b)) (rest := rest.map (tv A b)) ⟨hx, hb, hml, hC.own, hts⟩ (met_ret (D := D) (ca := ca) (b := b) (A := A) (sz := H.size) hl hS9 hlen c3 c2 w4) (cwV n hts (GW_self ?_) rfl rfl rfl ⟨rfl, c4⟩ ⟨by show mV y + 1 ≤ _; rw [hRf]; omega, by show 8 + (mM y + 11) + 35 * mV y ≤ _; exact Nat.le_trans (by omega) hRl⟩) ⟨PcC_blind, ?_, PcC_at (vs := .ref a :: (st.take n).reverse) hC hP hD hS c5⟩ rfl (args_len A b n st hn9) hz (stack_splitV A b n a hdr) (lv_room (by rw [wds_tv]; exact hw8)) hd ⟨hc1, hs1⟩
  · intro w hw
    simp only [wsV, wsM, List.cons_append, List.nil_append, List.mem_cons] at hw
    rcases hw with rfl | rfl | rfl | rfl | rfl | hw
    · exact w1
    · exact w5
    · exact w6
    · exact w2
    · exact w3
    · exact hw
  · have := va_recv hK9 hP (cls_ok (mC y) h8) (show (wld ca A h)[a]? = some (A a, .inr (mC y, (List.range (cN (mC y))).map (fvl A h (mC y) a))) by rw [wld_at ha, cont_obj hk h8])
    rw [hcc]
    exact this
theorem r_callI {v : Option Value} {mode a : Nat} (hl : l.stackTraces = false) (hd : decode (mB m) pc = .ok (.invokespecial i, 3)) (hmd : mode = 2 ∨ mode = 4) (hm : mRes (mC m) i = some (y, mode, n)) (hdr : st.drop n = .ref a :: rest) (hlev : mV y < mV m) (hw8 : wds rest ≤ 8) (hn9 : n ≤ st.length) (hwd : wds (st.take n) + 1 ≤ mM y)
    (hLs : WFl (hn h) Ls) (hst : WFl (hn h) st) (hS9 : Sem l L xs y 0 (entL (.ref a :: (st.take n).reverse) (mM y)) [] h (.inl (v, h'))) (hok : RunOK h (.inl (v, h'))) (hmo : hc h' ≤ hc (rH r) ∧ hs h' ≤ hs (rH r)) (K : Sem l L xs m (pc + 3) Ls (v.toList ++ rest) h' r) : Sem l L xs m pc Ls st h r := by
  have hdw := WFl_drop (k := n) hst
  rw [hdr, WFl_cons] at hdw
  refine Sem.call (rest := rest) hok hmo hLs hdw.2 (fun D ca b As p e R s mid args below meth c A H locs cells slots ls hC hz hP hD hS hc1 hs1 => ?_) K
  obtain ⟨hx, hb, hr, hml, hown, hts, hlk, hnm9, htab, hRf, hRl, hK9, hG, hZ, hA9, hlaw, hcl9, hst9⟩ := id hC
  have hlen : wds (.ref a :: (st.take n).reverse) ≤ mM y := by
    show (List.map _ _).sum ≤ _
    rw [List.map_cons, List.sum_cons]
    have := wds_rev (st.take n)
    unfold wds at this hwd
    rw [this]
    show 1 + _ ≤ _
    omega
  refine ⟨(Value.ref (A a) :: (st.take n).reverse.map (tv A b)).toArray, ?_⟩
  rcases hmd with rfl | rfl
  · obtain ⟨⟨⟨c1, c5⟩, c2, c3, c4⟩, w1, w2, w3, w4, w5, w6, w7⟩ := mres2 hm
    refine va_runI (n := n) (As := (st.take n).reverse.map (tv A b)) (rest := rest.map (tv A b)) ⟨hx, hb, hml, hC.own, hts⟩ (met_ret (D := D) (ca := ca) (b := b) (A := A) (sz := H.size) hl hS9 hlen c3 c2 w4) (cwI n hts (GW_self ?_) (by unfold wsM; rw [w7]) rfl rfl (hts _ w2) (hts _ w1) (hts _ w5) w6 c4 ⟨by show mV y + 1 ≤ _; rw [hRf]; omega, by show 8 + (mM y + 11) + 35 * mV y ≤ _; exact Nat.le_trans (by omega) hRl⟩) ⟨PcC_blind, PcC_at (vs := .ref a :: (st.take n).reverse) hC hP hD hS c5⟩ rfl (args_len A b n st hn9) hz (stack_splitV A b n a hdr) (lv_room (by rw [wds_tv]; exact hw8)) hd ⟨hc1, hs1⟩
    intro w hw
    rcases List.mem_cons.mp hw with rfl | hw
    · exact w3
    · exact hw
  · obtain ⟨⟨⟨c1, c5⟩, c2, c3, c4⟩, w1, w2, w3, w4, w5, w6, w7⟩ := mres4 hm
    refine va_runIN (n := n) (host := "CrossingPosts") (As := (st.take n).reverse.map (tv A b)) (rest := rest.map (tv A b)) ⟨hx, hb, hml, hC.own, hts⟩ (met_ret (D := D) (ca := ca) (b := b) (A := A) (sz := H.size) hl hS9 hlen c3 c2 w4) ⟨va_cnB n hts (GW_self ?_) (by unfold wsM; rw [w7]) rfl rfl (hG.1 _ w1) (hts _ w2) c4 ⟨by show mV y + 1 ≤ _; rw [hRf]; omega, by show 8 + (mM y + 11) + 35 * mV y ≤ _; exact Nat.le_trans (by omega) hRl⟩, w6, hts _ w5⟩ ⟨PcC_blind, PcC_at (vs := .ref a :: (st.take n).reverse) hC hP hD hS c5⟩ rfl (args_len A b n st hn9) hz (stack_splitV A b n a hdr) (lv_room (by rw [wds_tv]; exact hw8)) hd ⟨hc1, hs1⟩
    intro w hw
    rcases List.mem_cons.mp hw with rfl | hw
    · exact w3
    · exact hw
end
