/-! A THROW, AND ITS CATCHING BY THE CALLER -/
section
variable {l : Launch} {L : Nat} {xs : Nat → Int32} {m y : MD} {pc i n : Nat} {Ls st vs rest : List Value} {h h' : AH} {r : Res}
def upN : List String := ["java/lang/RuntimeException", "java/lang/Exception"]
def okX (q : Nat × Nat × String × Nat) : Bool := atW q.2.2.2 (.classLink RX6 q.1 q.2.2.1) && decide (Cond.initialized q.2.2.1 ∈ lw_tbl) && decide (q.2.2.1 ∈ exL) && Bundle.fit q.2.2.1 &&
  (vx_atS RX6 q.2.1 q.2.2.1 upN).all (fun w => (goodWord w && decide (w ∈ lw_tbl)) || decide (w ∈ declL.map Cond.declares) || decide (w ∈ exL.map (fun E => Cond.castable E E))) &&
  (Cond.classLink RX6 q.1 q.2.2.1 :: Cond.initialized q.2.2.1 :: vx_atS RX6 q.2.1 q.2.2.1 upN).all vx_ot
set_option maxRecDepth 100000 in
theorem xRT_ok : ∀ q ∈ xRT, okX q = true := List.all_eq_true.mp (by decide +kernel)
theorem upN_fit : ∀ x ∈ upN, Bundle.fit x = true := by decide +kernel
theorem xRes_ok {ik ic : Nat} {E : String} (h : xRes ik ic = some E) : Cond.classLink RX6 ik E ∈ GW ∧ Cond.initialized E ∈ GW ∧ E ∈ exL ∧ Bundle.fit E = true ∧
    (∀ w ∈ vx_atS RX6 ic E upN, w ∈ GW ∨ (∃ x ∈ declL, w = .declares x) ∨ ∃ E' ∈ exL, w = .castable E' E') ∧ ∀ w ∈ Cond.classLink RX6 ik E :: Cond.initialized E :: vx_atS RX6 ic E upN, vx_ot w = true := by
  unfold xRes at h
  obtain ⟨q, hq, he⟩ := Option.map_eq_some_iff.mp h
  have hp := List.find?_some hq
  rw [Bool.and_eq_true, beq_iff_eq, beq_iff_eq] at hp
  have ho := xRT_ok q (List.mem_of_find?_eq_some hq)
  obtain ⟨q1, q2, q3, q4⟩ := q
  cases he
  obtain ⟨rfl, rfl⟩ := hp
  unfold okX at ho
  simp only [Bool.and_eq_true, decide_eq_true_eq] at ho
  obtain ⟨⟨⟨⟨⟨k1, k2⟩, k3⟩, k4⟩, k5⟩, k6⟩ := ho
  refine ⟨atW_mem k1, List.mem_filter.mpr ⟨k2, rfl⟩, k3, k4, fun w hw => ?_, List.all_eq_true.mp k6⟩
  have := List.all_eq_true.mp k5 w hw
  simp only [Bool.or_eq_true, Bool.and_eq_true, decide_eq_true_eq] at this
  rcases this with (z | z) | z
  · exact Or.inl (List.mem_filter.mpr ⟨z.2, z.1⟩)
  · obtain ⟨x, hx, e⟩ := List.mem_map.mp z
    exact Or.inr (Or.inl ⟨x, hx, e.symm⟩)
  · obtain ⟨x, hx, e⟩ := List.mem_map.mp z
    exact Or.inr (Or.inr ⟨x, hx, e.symm⟩)
theorem use_Nw {w : Cond} (hw : w.onTables = true) {s : State} {args : Array Value} (hZ : va_Nw w s) : w.before args s = true := va_tabs hw rfl hZ
def QcF (As : Nat → Prop) : Array Value → State → Outcome → State → Prop := va_Qi (fun (_ : Int32) (_ : Unit) => False) (fun _ _ => True) As
def XcC (D : va_G) (ca : Nat → ClassId) (E : String) (k : Nat) (A : Nat → Nat) (h' : AH) (As : Nat → Prop) : String → State → State → Prop := vx_X (fun (u : Nat → Nat) => ∀ i, i < k → u i = A i) (fun E' u t => E' = E ∧ BC D ca h' As u t) As
theorem met_thr {D : va_G} {ca : Nat → ClassId} {b : Nat} {A : Nat → Nat} {sz : Nat} {E : String} (hl : l.stackTraces = false) (hS : Sem l L xs y 0 (entL vs (mM y)) [] h (.inr (E, h'))) (hlen : wds vs ≤ mM y) (hpl : plainName (mN y).cls = true) (hcl : (mN y).cls = ow (mC y))  (hno : mH y = []) :
    vx_Met l (mN y) (wsM y) (rmC y (hc h' - hc h) (hs h' - hs h)) (PcC y L xs D ca b A h sz vs) (QcF (va_A (wld ca A h) sz)) (XcC D ca E (hn h) A h' (va_A (wld ca A h) sz)) (hc h' - hc h) (hs h' - hs h) (va_A (wld ca A h) sz) := by
  refine vx_ofW (cc := mB y) (maxL := mM y) (ret := mR y) hpl rfl ?_
  intro p e s mid args below meth c s₁ B hml hnt hv
  have hsz := hv.2.1
  subst hsz
  have htab : c.exceptionTable.toList = tableOf (mH y) := by
    rw [hno]
    exact List.eq_nil_iff_forall_not_mem.mpr (fun x hx => hnt x hx)
  have hC := Cx_body (L := L) (xs := xs) hl hcl B hml (fun w hw => List.mem_cons_of_mem _ hw) htab hv
  refine body_sem (ws := wsM y) hS hlen hC (by show hc h' ≤ _; omega) (by show hs h' ≤ _; omega) hv ⟨fun A' H locs cells slots pc ls v' h1 he => (by cases he), ?_⟩
  intro A' H locs cells slots pc ls E' h1 he hag hpos hthr hlsz
  cases he
  obtain ⟨hP, hD, hS9, h4, h5⟩ := hpos
  obtain ⟨hx, hb, hr, hml9, hown, hts, hlk, hnm9, htab9, hRf, hRl, hK9, hG, hZ, hA9, hlaw, hcl9, hst9⟩ := id hC
  obtain ⟨ik, is, ic, tx, d0, d3, d469, hxr, hsr, hm6, hm9, hmh⟩ := hthr
  obtain ⟨x1, x2, x3, x4, x5, x6⟩ := xRes_ok hxr
  have hown6 : s.vm.findClass RX6 = some mid.cls := by
    have := hC.own
    rw [hm6] at this
    exact this
  obtain ⟨sa, hsa⟩ := hG.2.2.2.2.1 _ hsr
  have e4 : hc (bump h1) = hc h1 + 1 := rfl
  have e5 : hs (bump h1) = hs h1 + 6 := rfl
  rcases d469 with ⟨d4, d6, d9⟩ | ⟨d4, d7, d10⟩
  · refine vx_throwS (names := upN) (A := va_A (wld ca A h) s.heap.size) hx hb hl hown6 x4 upN_fit (hts _ x1) (hts _ x2) hsa (fun w hw => ?_) x6 hZ.1 hZ.2 hS9 hlsz d0 d3 d4 d6 d9 ?_ ?_ ?_ ?_ ?_ hlk (fun t hal hsz1 hkeep => ?_) hS9.2.2 ?_ ?_
    · rcases x5 w hw with z | ⟨x, hx9, rfl⟩ | ⟨E9, hE9, rfl⟩
      · exact hts _ z
      · exact use_Nw rfl (hG.2.2.1 x hx9)
      · exact use_Nw rfl (hG.2.1 E9 hE9)
    · intro x hx9
      exact absurd hx9 (fun z => (hnt x z).elim)
    · show upN.length + 3 < mV y
      rw [hm9]; decide
    · show ([] : List Nat).sum + (13 * (upN.length + 1) + 43) ≤ 35 * mV y
      rw [hm9]; decide
    · show cells + 1 ≤ hc (bump h1) - hc h
      omega
    · show slots + 6 ≤ hs (bump h1) - hs h
      omega
    · refine ⟨A', hag, ⟨rfl, ?_, hD⟩, ?_, ?_⟩
      · exact hP.kept (fun k q hk => hkeep q.1 ((hP k q hk).lt))
      · exact Nat.le_trans hS9.1 hsz1
      · intro q h1q h2q
        rw [hkeep q (Nat.lt_of_lt_of_le h1q hS9.1)]
        exact hS9.2.1 q h1q h2q
    · omega
    · omega
  · refine vx_throwSW (names := upN) (A := va_A (wld ca A h) s.heap.size) hx hb hl hown6 x4 upN_fit (hts _ x1) (hts _ x2) hsa (fun w hw => ?_) x6 hZ.1 hZ.2 hS9 hlsz d0 d3 d4 d7 d10 ?_ ?_ ?_ ?_ ?_ hlk (fun t hal hsz1 hkeep => ?_) hS9.2.2 ?_ ?_
    · rcases x5 w hw with z | ⟨x, hx9, rfl⟩ | ⟨E9, hE9, rfl⟩
      · exact hts _ z
      · exact use_Nw rfl (hG.2.2.1 x hx9)
      · exact use_Nw rfl (hG.2.1 E9 hE9)
    · intro x hx9
      exact absurd hx9 (fun z => (hnt x z).elim)
    · show upN.length + 3 < mV y
      rw [hm9]; decide
    · show ([] : List Nat).sum + (13 * (upN.length + 1) + 43) ≤ 35 * mV y
      rw [hm9]; decide
    · show cells + 1 ≤ hc (bump h1) - hc h
      omega
    · show slots + 6 ≤ hs (bump h1) - hs h
      omega
    · refine ⟨A', hag, ⟨rfl, ?_, hD⟩, ?_, ?_⟩
      · exact hP.kept (fun k q hk => hkeep q.1 ((hP k q hk).lt))
      · exact Nat.le_trans hS9.1 hsz1
      · intro q h1q h2q
        rw [hkeep q (Nat.lt_of_lt_of_le h1q hS9.1)]
        exact hS9.2.1 q h1q h2q
    · omega
    · omega
def okE (q : Nat × String × Nat) : Bool := atW q.2.2 (.classLink (ow 8) q.1 q.2.1) && decide (q.2.1 ∈ exN) && decide (q.1 ≠ 0)
set_option maxRecDepth 100000 in
theorem eRT_ok : ∀ q ∈ eRT, okE q = true := List.all_eq_true.mp (by decide +kernel)
theorem eRes_ok {j : Nat} {E : String} (h : eRes j = some E) : Cond.classLink (ow 8) j E ∈ GW ∧ E ∈ exN ∧ j ≠ 0 := by
  unfold eRes at h
  obtain ⟨q, hq, he⟩ := Option.map_eq_some_iff.mp h
  have hp := List.find?_some hq
  rw [beq_iff_eq] at hp
  have ho := eRT_ok q (List.mem_of_find?_eq_some hq)
  obtain ⟨q1, q2, q3⟩ := q
  cases he
  subst hp
  unfold okE at ho
  simp only [Bool.and_eq_true, decide_eq_true_eq] at ho
  exact ⟨atW_mem ho.1.1, ho.1.2, ho.2⟩
theorem hfind_spec {pc hp : Nat} {E : String} : ∀ hh : List (Nat × Nat × Nat × Nat), hfind pc E hh = some hp → ∃ pre x suf, hh = pre ++ x :: suf ∧ (x.1 ≤ pc ∧ pc < x.2.1) ∧ eRes x.2.2.2 = some E ∧ x.2.2.1 = hp ∧ ∀ z ∈ pre, ¬ (z.1 ≤ pc ∧ pc < z.2.1) ∨ ∃ E', eRes z.2.2.2 = some E' ∧ E' ≠ E
  | [], h => by cases h
  | q :: t, h => by
    unfold hfind at h
    split at h
    · rename_i hcov
      split at h
      · rename_i E' hE'
        split at h
        · rename_i he
          cases h
          exact ⟨[], q, t, rfl, hcov, by rw [hE', he], rfl, fun z hz => absurd hz List.not_mem_nil⟩
        · rename_i hne
          obtain ⟨pre, x, suf, e1, e2, e3, e4, e5⟩ := hfind_spec t h
          refine ⟨q :: pre, x, suf, by rw [e1]; rfl, e2, e3, e4, fun z hz => ?_⟩
          rcases List.mem_cons.mp hz with e | e
          · rw [e]; exact Or.inr ⟨E', hE', hne⟩
          · exact e5 z e
      · cases h
    · rename_i hcov
      obtain ⟨pre, x, suf, e1, e2, e3, e4, e5⟩ := hfind_spec t h
      refine ⟨q :: pre, x, suf, by rw [e1]; rfl, e2, e3, e4, fun z hz => ?_⟩
      rcases List.mem_cons.mp hz with e | e
      · rw [e]; exact Or.inl hcov
      · exact e5 z e
theorem r_callX {a : Nat} {E : String} {q : Nat × List Value} (hl : l.stackTraces = false) (hd : decode (mB m) pc = .ok (.invokevirtual i, 3)) {mode : Nat} (hmd : mode = 1 ∨ mode = 5) (hm : mRes (mC m) i = some (y, mode, n)) (hdr : st.drop n = .ref a :: rest) (hlev : mV y < mV m) (hw8 : wds rest ≤ 8) (hn9 : n ≤ st.length) (hwd : wds (st.take n) + 1 ≤ mM y) (hk : hK h a = mC y) (h8 : mC y < 8)
    (hLs : WFl (hn h) Ls) (hst : WFl (hn h) st) (hS9 : Sem l L xs y 0 (entL (.ref a :: (st.take n).reverse) (mM y)) [] h (.inr (E, h'))) (hE : E ∈ exL) (hok : RunOK h (.inr (E, h'))) (hmo : hc h' ≤ hc (rH r) ∧ hs h' ≤ hs (rH r)) (hh : hstep m pc Ls E = some q) (K : Sem l L xs m q.1 q.2 [] h' r) : Sem l L xs m pc Ls st h r := by
  have hdw := WFl_drop (k := n) hst
  rw [hdr, WFl_cons] at hdw
  have ha : a < hn h := hdw.1 a rfl
  obtain ⟨o1, o2, o3, o4, -, -⟩ := hok
  have o2 : hn h ≤ hn h' := o2
  have o3 : hc h ≤ hc h' := o3
  have o4 : hs h ≤ hs h' := o4
  intro D ca b As p e R s mid args below meth c Q c0 s0 n0 A0 hC hEn A H locs cells slots ls h1 h2 h3 h4 h5 h6
  obtain ⟨hP, hD, hS, q4, q5⟩ := h3
  obtain ⟨hx, hb, hr, hml, hown, hts, hlk, hnm9, htab, hRf, hRl, hK9, hG, hZ, hA9, hlaw, hcl9, hst9⟩ := id hC
  have hfr := wld_free (D := D) hD hS hA9
  obtain ⟨m1, m2⟩ := hmo
  have hlen : wds (.ref a :: (st.take n).reverse) ≤ mM y := by
    show (List.map _ _).sum ≤ _
    rw [List.map_cons, List.sum_cons]
    have := wds_rev (st.take n)
    unfold wds at this hwd
    rw [this]
    show 1 + _ ≤ _
    omega
  obtain ⟨⟨⟨c1, c5⟩, c2, c3, c4⟩, w1, w2, w3, w4, w5, w6⟩ := mres1 hmd hm
  have hcc : (mN y).cls = cR (mC y) := by rw [c2, ow_cR h8]
  have hmR : R.frames = mV m := hRf
  have hrun := vx_runV (p := p) (l := l) (e := e) (R := R) (s := s) (m := mid) (args := args) (below := below) (meth := meth) (c := c) (H := H) (locs := locs) (cells := cells) (slots := slots) (g := F0 mid pc ls (st.map (tv A b))) (n := n) (C := (mN y).cls) (As := (st.take n).reverse.map (tv A b)) (rest := rest.map (tv A b)) ⟨hx, hb, hml, hC.own, hts⟩ (met_thr (D := D) (ca := ca) (b := b) (A := A) (sz := H.size) hl hS9 hlen c3 c2 w4)
    (cwV n hts (GW_self (by
      intro w hw
      simp only [wsV, wsM, List.cons_append, List.nil_append, List.mem_cons] at hw
      rcases hw with rfl | rfl | rfl | rfl | rfl | hw
      · exact w1
      · exact w5
      · exact w6
      · exact w2
      · exact w3
      · exact hw)) rfl rfl rfl ⟨rfl, c4⟩ ⟨by show mV y + 1 ≤ _; rw [hRf]; omega, by show 8 + (mM y + 11) + 35 * mV y ≤ _; exact Nat.le_trans (by omega) hRl⟩)
    ⟨PcC_blind, (by
      have := va_recv hK9 hP (cls_ok (mC y) h8) (show (wld ca A h)[a]? = some (A a, .inr (mC y, (List.range (cN (mC y))).map (fvl A h (mC y) a))) by rw [wld_at ha, cont_obj hk h8])
      rw [hcc]
      exact this), PcC_at (vs := .ref a :: (st.take n).reverse) hC hP hD hS c5⟩ rfl (args_len A b n st hn9) h6.1 (stack_splitV A b n a hdr) (lv_room (by rw [wds_tv]; exact hw8)) hd (by omega)
  refine vx_calli hrun hS (fun z _ hz => hfr z hz) hfr (fun z _ hz => hfr z hz) (fun E9 ce q9 u t H1 locs1 ht hal hag hB hsz1 hkp hS1 hcell hvm hcls => ?_) (fun r9 u9 t9 H9 l9 _ _ hf => hf.elim)
  obtain ⟨rfl, b1, b2⟩ := hB
  rw [ht] at b1
  have hwf2 : WFl (hn h) q.2 := hstep_ok hLs hh
  replace hh := (hstep_of hh).2
  unfold hstep0 at hh
  split at hh
  · cases hh
  · rename_i hp hfd
    split at hh
    · rename_i hm8
      obtain ⟨pre, x, suf, e1, e2, e3, e4, e5⟩ := hfind_spec _ hfd
      obtain ⟨y1, y2, y3⟩ := eRes_ok e3
      have hown8 : s.vm.findClass (ow 8) = some mid.cls := by rw [← hm8]; exact hC.own
      have htab9 : c.exceptionTable.toList = (pre.map fun q => (⟨q.1, q.2.1, q.2.2.1, q.2.2.2⟩ : ExceptionTableEntry)) ++ ⟨x.1, x.2.1, x.2.2.1, x.2.2.2⟩ :: (suf.map fun q => (⟨q.1, q.2.1, q.2.2.1, q.2.2.2⟩ : ExceptionTableEntry)) := by
        rw [htab, e1]
        unfold tableOf
        rw [List.map_append]
        rfl
      refine vx_catch hown8 _ _ _ htab9 (fun z hz => ?_) (by simp [e2.1, e2.2]) y3 (hts _ y1) (use_Nw rfl (hG.2.1 _ hE)) hcell hvm hcls ?_
      · obtain ⟨z0, hz0, rfl⟩ := List.mem_map.mp hz
        rcases e5 z0 hz0 with e | ⟨E', e6, e7⟩
        · left
          simp only [covers, Bool.and_eq_false_iff, decide_eq_false_iff_not]
          by_cases q1 : z0.1 ≤ pc
          · exact Or.inr (fun q2 => e ⟨q1, q2⟩)
          · exact Or.inl q1
        · obtain ⟨v1, v2, v3⟩ := eRes_ok e6
          exact Or.inr ⟨v3, E', hts _ v1, hG.2.2.2.1 _ hE _ v2 (fun z => e7 z.symm)⟩
      · have fin : ∀ (ls' : Array Slot), lv_has ls' (mM m) (lvO A b q.2) → W p l e R s mid args below meth c H1 locs1 (cells + (hc h' - hc h)) (slots + (hs h' - hs h)) Q (F0 mid q.1 ls' []) := by
          intro ls' hl'
          exact K D ca b As p e R s mid args below meth c Q c0 s0 n0 A0 hC hEn u H1 locs1 _ _ ls' (Nat.le_trans h1 o2) (fun j hj => by rw [hag j (by omega)]; exact h2 j hj) ⟨b1, b2.weaken (fun _ _ _ z => hfr _ z), hS1, by omega, by omega⟩ h4 h5 (lv_mono hl' (fun z hz => lvO_ext hag hwf2 hz))
        show W p l e R s mid args below meth c H1 locs1 _ _ Q (F0 mid x.2.2.1 ls [.ref q9])
        rw [e4]
        split at hh
        · rename_i k hdk
          split at hh
          · rename_i hk2
            cases hh
            exact lv_astore_n (x := q9) hx hb hdk rfl h6 hk2.1 rfl (fun ls' hl' => fin ls' (lv_mono hl' (lvO_set1 hk2.2 (Or.inl rfl))))
          · cases hh
        · rename_i k hdk
          split at hh
          · rename_i hk2
            cases hh
            exact lv_astore (x := q9) hx hb hdk h6 hk2.1 rfl (fun ls' hl' => fin ls' (lv_mono hl' (lvO_set1 hk2.2 (Or.inl rfl))))
          · cases hh
        · cases hh
    · cases hh
end
