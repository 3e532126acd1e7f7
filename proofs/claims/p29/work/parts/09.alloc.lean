/-! THE ROWS THAT MAKE -/
section
variable {l : Launch} {L : Nat} {xs : Nat → Int32} {m : MD} {pc : Nat} {Ls st : List Value} {h : AH} {r : Res}
theorem tv_ext {A A' : Nat → Nat} {b n : Nat} {v : Value} (hA : ∀ i, i < n → A' i = A i) (hv : ∀ i, v = .ref i → i < n) : tv A' b v = tv A b v := by
  cases v <;> try rfl
  rename_i a
  show Value.ref (A' a) = .ref (A a)
  rw [hA a (hv a rfl)]
theorem tvl_ext {A A' : Nat → Nat} {b n : Nat} {st : List Value} (hA : ∀ i, i < n → A' i = A i) (hs : WFl n st) : st.map (tv A' b) = st.map (tv A b) := List.map_congr_left fun v hv => tv_ext hA (fun i e => hs i (e ▸ hv))
theorem lvO_ext {A A' : Nat → Nat} {b n : Nat} {Ls : List Value} (hA : ∀ i, i < n → A' i = A i) (hs : WFl n Ls) {q : Nat × Value} (hq : q ∈ lvO A' b Ls) : q ∈ lvO A b Ls := by
  obtain ⟨v, h1, h2, h3⟩ := mem_lvO.mp hq
  exact mem_lvO.mpr ⟨v, h1, h2, by rw [h3]; exact tv_ext hA (fun i e => hs i (e ▸ List.mem_of_getElem? h1))⟩
theorem map_ext {A A' : Nat → Nat} {n : Nat} {o : Option Nat} (hA : ∀ i, i < n → A' i = A i) (ho : ∀ j, o = some j → j < n) : o.map A' = o.map A := by
  cases o with
  | none => rfl
  | some j => show some (A' j) = some (A j); rw [hA j (ho j rfl)]
theorem cont_ext {ca : Nat → ClassId} {A A' : Nat → Nat} {h : AH} (hA : ∀ i, i < hn h → A' i = A i) (hw : WFh h) (j : Nat) : cont ca A' h j = cont ca A h j := by
  have e : ∀ k s, fvl A' h k j s = fvl A h k j s := fun k s => by unfold fvl; rw [map_ext hA (hw.1 _ _)]
  have e2 : (fun z => (hQ h j z).map A') = (fun z => (hQ h j z).map A) := funext fun z => map_ext hA (hw.2 _ _)
  unfold cont
  rw [e2, show fvl A' h (hK h j) j = fvl A h (hK h j) j from funext fun s => e _ s]
theorem cont_nw {ca : Nat → ClassId} {A : Nat → Nat} {h : AH} {k len sl j : Nat} (hj : j ≠ hn h) : cont ca A (nw h k len sl) j = cont ca A h j := by
  refine cont_other ?_ (fun F => ?_) (fun F => ?_) ?_ ?_ ?_ ?_
  · show (if j = hn h then k else hK h j) = hK h j; rw [if_neg hj]
  · show (if j = hn h then 0 else hI h F j) = hI h F j; rw [if_neg hj]
  · show (if j = hn h then none else hR h F j) = hR h F j; rw [if_neg hj]
  · show (if j = hn h then len else hN h j) = hN h j; rw [if_neg hj]
  · funext z; show (if j = hn h then 0 else hA h j z) = hA h j z; rw [if_neg hj]
  · funext z; show (if j = hn h then none else hQ h j z) = hQ h j z; rw [if_neg hj]
  · funext z; show (if j = hn h then 0 else hL h j z) = hL h j z; rw [if_neg hj]
/-- what every making owes -/
theorem Sem.make {k len sl pc' : Nat} {st0 : List Value} (hw : WFh h) (hLs : WFl (hn h) Ls) (hst : WFl (hn h) st)
    (hrow : ∀ (D : va_G) (ca : Nat → ClassId) (b : Nat) (As : Nat → Prop) (p : Program) (e : Env) (R : Room) (s : State) (mid : MethodId) (args : Array Value) (below : List Frame) (meth : Method) (c : Code) (Q : State → Prop) (A : Nat → Nat) (H : Heap) (locs : List Loc) (cells slots : Nat) (ls : Array Slot),
      Cx l L xs m D ca b As p R s mid args meth c → ls.size = mM m → va_P D vwCl (wld ca A h) H → va_D As (wld ca A h) → va_S As s.heap H locs → cells + 1 ≤ R.cells → slots + sl ≤ R.slots →
      (∀ (q : Nat) (H1 : Heap), va_P D vwCl (wld ca A h ++ [(q, cont ca (fun j => if j = hn h then q else A j) (nw h k len sl) (hn h))]) H1 → va_D As (wld ca A h ++ [(q, cont ca (fun j => if j = hn h then q else A j) (nw h k len sl) (hn h))]) → va_S As s.heap H1 locs → W p l e R s mid args below meth c H1 locs (cells + 1) (slots + sl) Q (F0 mid pc' ls (.ref q :: st.map (tv A b)))) → W p l e R s mid args below meth c H locs cells slots Q (F0 mid pc ls (st0.map (tv A b))))
    (hmo : hc (nw h k len sl) ≤ hc (rH r) ∧ hs (nw h k len sl) ≤ hs (rH r)) (K : Sem l L xs m pc' Ls (.ref (hn h) :: st) (nw h k len sl) r) : Sem l L xs m pc Ls st0 h r := by
  intro D ca b As p e R s mid args below meth c Q c0 s0 n0 A0 hC hE A H locs cells slots ls h1 h2 h3 h4 h5 h6
  have q4 := h3.2.2.2.1
  have q5 := h3.2.2.2.2
  have m1 : hc h + 1 ≤ hc (rH r) := hmo.1
  have m2 : hs h + sl ≤ hs (rH r) := hmo.2
  refine hrow D ca b As p e R s mid args below meth c Q A H locs cells slots ls hC h6.1 h3.1 h3.2.1 h3.2.2.1 (by omega) (by omega) (fun q H1 p1 p2 p3 => ?_)
  generalize hA' : (fun j => if j = hn h then q else A j) = A' at p1 p2
  have ex : ∀ i, i < hn h → A' i = A i := fun i hi => by rw [← hA']; show (if i = hn h then q else A i) = A i; rw [if_neg (by omega)]
  have eq : A' (hn h) = q := by rw [← hA']; show (if hn h = hn h then q else A (hn h)) = q; rw [if_pos rfl]
  have hpush : wld ca A h ++ [(q, cont ca A' (nw h k len sl) (hn h))] = wld ca A' (nw h k len sl) := wld_push rfl ex eq rfl (fun j hj => by rw [cont_nw (by omega), cont_ext ex hw])
  rw [hpush] at p1 p2
  have K9 := K D ca b As p e R s mid args below meth c Q c0 s0 n0 A0 hC hE A' H1 locs (cells + 1) (slots + sl) ls (by show n0 ≤ hn h + 1; omega) (fun i hi => by rw [ex i (by omega)]; exact h2 i hi) ⟨p1, p2, p3, by show cells + 1 + c0 = hc h + 1; omega, by show slots + sl + s0 = hs h + sl; omega⟩ h4 h5 (lv_mono h6 (fun x hx => lvO_ext ex hLs hx))
  have e9 : (Value.ref (hn h) :: st).map (tv A' b) = .ref q :: st.map (tv A b) := by
    rw [List.map_cons, tvl_ext ex hst]
    show Value.ref (A' (hn h)) :: _ = _
    rw [eq]
  rw [e9] at K9
  exact K9
def okN (q : Nat × Nat × Nat × List Nat) : Bool := decide (q.2.2.1 < 8) && atW (q.2.2.2.getD 0 100000) (.classLink (ow q.1) q.2.1 (cR q.2.2.1)) && atW (q.2.2.2.getD 1 100000) (.instantiable (cR q.2.2.1) (cN q.2.2.1)) && atW (q.2.2.2.getD 2 100000) (.initialized (cR q.2.2.1))
set_option maxRecDepth 100000 in
theorem nRT_ok : nRT.all okN = true := by decide +kernel
theorem nRes_ok {c i k : Nat} (h : nRes c i = some k) : k < 8 ∧ Cond.classLink (ow c) i (cR k) ∈ GW ∧ Cond.instantiable (cR k) (cN k) ∈ GW ∧ Cond.initialized (cR k) ∈ GW := by
  unfold nRes at h
  obtain ⟨q, hq, he⟩ := Option.map_eq_some_iff.mp h
  have hp := List.find?_some hq
  rw [Bool.and_eq_true, beq_iff_eq, beq_iff_eq] at hp
  have ho := List.all_eq_true.mp nRT_ok q (List.mem_of_find?_eq_some hq)
  unfold okN at ho
  rw [Bool.and_eq_true, Bool.and_eq_true, Bool.and_eq_true, decide_eq_true_eq] at ho
  cases he
  exact ⟨ho.1.1.1, by rw [← hp.1, ← hp.2]; exact atW_mem ho.1.1.2, atW_mem ho.1.2, atW_mem ho.2⟩
theorem dflt_ok : ∀ k, k < 8 → ∀ j, j < cN k → defaultValue (cTy k j) = if isRf k j then .null else .int 0 := by decide +kernel
theorem r_new {i k : Nat} (hd : decode (mB m) pc = .ok (.new i, 3)) (hk : nRes (mC m) i = some k) (hw : WFh h) (hLs : WFl (hn h) Ls) (hst : WFl (hn h) st) (hmo : hc (nw h k 0 (cN k)) ≤ hc (rH r) ∧ hs (nw h k 0 (cN k)) ≤ hs (rH r)) (K : Sem l L xs m (pc + 3) Ls (.ref (hn h) :: st) (nw h k 0 (cN k)) r) : Sem l L xs m pc Ls st h r := by
  obtain ⟨h8, w1, w2, w3⟩ := nRes_ok hk
  refine Sem.make hw hLs hst (fun D ca b As p e R s mid args below meth c Q A H locs cells slots ls hC hz hP hD hS hc1 hs1 k9 => ?_) hmo K
  obtain ⟨hx, hb, hr, hml, hown, hts, hlk, hnm9, htab, hRf, hRl, hK9, hG, hZ, hA9, hlaw, hcl9, hst9⟩ := id hC
  refine va_new (ci := k) (fs := (List.range (cN k)).map (fun s => if isRf k s then .null else .int 0)) hC.1 hC.2.1 hC.wd (cls_in k h8) (cTy k) (cls_ty k h8) hC.own (hts _ w1) (hts _ w2) (hts _ w3) hC.K hP hD hS hA9 (cls_ok k h8) (fun j hj => ?_) hc1 hs1 hd (fun q H1 p1 p2 p3 => ?_)
  · rw [dflt_ok k h8 j hj]
    unfold vp_V
    rw [List.getD_eq_getElem?_getD, List.getElem?_map, List.getElem?_range hj]
    rfl
  · have e : cont ca (fun j => if j = hn h then q else A j) (nw h k 0 (cN k)) (hn h) = .inr (k, (List.range (cN k)).map (fun s => if isRf k s then .null else .int 0)) := by
      rw [cont_obj (k := k) (by show (if hn h = hn h then k else hK h (hn h)) = k; rw [if_pos rfl]) h8]
      congr 3
      funext s
      unfold fvl
      have e1 : hR (nw h k 0 (cN k)) (16 * k + s) (hn h) = none := by show (if hn h = hn h then none else _) = none; rw [if_pos rfl]
      have e2 : hI (nw h k 0 (cN k)) (16 * k + s) (hn h) = 0 := by show (if hn h = hn h then 0 else _) = (0 : Int32); rw [if_pos rfl]
      rw [e1, e2]
      rfl
    refine k9 q H1 ?_ ?_ p3
    · rw [e]; exact p1
    · rw [e]; exact p2
theorem arr_words : Cond.arrayClass .int ∈ GW := List.mem_filter.mpr ⟨by decide +kernel, rfl⟩
theorem tys_last {D : va_G} {ca : Nat → ClassId} {s : State} {cA : ClassId} {ty : FieldType} {k : Nat} (hK : va_K D vwCl (tysOf ca) s) (hK2 : va_K D vwCl (tysOf ca ++ [(cA, ty)]) s) (hk : (tysOf ca)[k]? = some (ca k, ty)) : cA = ca k := by
  have h1 := (hK.2 k _ hk).2
  have h2 := (hK2.2 5 (cA, ty) (by rfl)).2
  cases ty with
  | object C =>
    obtain ⟨_, _, _, _, _, z1⟩ := h1
    obtain ⟨_, _, _, _, _, z2⟩ := h2
    exact Option.some.inj (z2.symm.trans z1)
  | _ => exact Option.some.inj (Eq.symm (Eq.trans (Eq.symm h1) h2))
theorem r_newI {n : Int32} (hd : decode (mB m) pc = .ok (.newarray .int, 2)) (h0 : 0 ≤ n) (h1 : n ≤ 10000) (hw : WFh h) (hLs : WFl (hn h) Ls) (hst : WFl (hn h) st) (hmo : hc (nw h 8 n.toNatClampNeg n.toNatClampNeg) ≤ hc (rH r) ∧ hs (nw h 8 n.toNatClampNeg n.toNatClampNeg) ≤ hs (rH r)) (K : Sem l L xs m (pc + 2) Ls (.ref (hn h) :: st) (nw h 8 n.toNatClampNeg n.toNatClampNeg) r) : Sem l L xs m pc Ls (.int n :: st) h r := by
  refine Sem.make hw hLs hst (fun D ca b As p e R s mid args below meth c Q A H locs cells slots ls hC hz hP hD hS hc1 hs1 k9 => ?_) hmo K
  obtain ⟨hx, hb, hr, hml, hown, hts, hlk, hnm9, htab, hRf, hRl, hK9, hG, hZ, hA9, hlaw, hcl9, hst9⟩ := id hC
  have hsz : n.toNatClampNeg ≤ 10000 := by
    have e1 := Int32.le_iff_toInt_le.mp h1
    have e2 : (10000 : Int32).toInt = 10000 := by decide
    have e3 := Int32.le_iff_toInt_le.mp h0
    have e4 : (0 : Int32).toInt = 0 := by decide
    have e5 : n.toNatClampNeg = n.toInt.toNat := rfl
    omega
  refine va_newa (atype := .int) (a0 := (n.toNatClampNeg, .inl (fun _ => 0))) hC.1 hC.2.1 (hts _ arr_words) rfl hC.K hP hD hS hA9 (fun _ => rfl) (Int32.not_lt.mpr h0) rfl (by show n.toNatClampNeg * 4 ≤ 536870912; omega) hc1 hs1 hd (fun q cA H1 pK p1 p2 p3 => ?_)
  have ec : cA = ca 0 := tys_last (k := 0) hK9 pK rfl
  subst ec
  have e : cont ca (fun j => if j = hn h then q else A j) (nw h 8 n.toNatClampNeg n.toNatClampNeg) (hn h) = .inl (ca 0, n.toNatClampNeg, .inl (fun _ => 0)) := by
    rw [cont_int (by show (if hn h = hn h then 8 else hK h (hn h)) = 8; rw [if_pos rfl])]
    have e1 : hN (nw h 8 n.toNatClampNeg n.toNatClampNeg) (hn h) = n.toNatClampNeg := by show (if hn h = hn h then _ else _) = n.toNatClampNeg; rw [if_pos rfl]
    have e2 : hA (nw h 8 n.toNatClampNeg n.toNatClampNeg) (hn h) = fun _ => 0 := by funext z; show (if hn h = hn h then 0 else _) = (0 : Int32); rw [if_pos rfl]
    rw [e1, e2]
  refine k9 q H1 ?_ ?_ p3
  · rw [e]; exact p1
  · rw [e]; exact p2
def okQ (q : Nat × Nat × Nat × Nat) : Bool := decide (q.2.2.1 = 9 ∨ q.2.2.1 = 10 ∨ q.2.2.1 = 11) && atW q.2.2.2 (.classLink (ow q.1) q.2.1 (cR (rowK q.2.2.1)))
set_option maxRecDepth 100000 in
theorem qRT_ok : qRT.all okQ = true := by decide +kernel
theorem qRes_ok {c i k : Nat} (h : qRes c i = some k) : (k = 9 ∨ k = 10 ∨ k = 11) ∧ Cond.classLink (ow c) i (cR (rowK k)) ∈ GW := by
  unfold qRes at h
  obtain ⟨q, hq, he⟩ := Option.map_eq_some_iff.mp h
  have hp := List.find?_some hq
  rw [Bool.and_eq_true, beq_iff_eq, beq_iff_eq] at hp
  have ho := List.all_eq_true.mp qRT_ok q (List.mem_of_find?_eq_some hq)
  unfold okQ at ho
  rw [Bool.and_eq_true, decide_eq_true_eq] at ho
  cases he
  exact ⟨ho.1, by rw [← hp.1, ← hp.2]; exact atW_mem ho.2⟩
theorem r_newQ {i k : Nat} {n : Int32} (hd : decode (mB m) pc = .ok (.anewarray i, 3)) (hk : qRes (mC m) i = some k) (h0 : 0 ≤ n) (h1 : n ≤ 10000) (hw : WFh h) (hLs : WFl (hn h) Ls) (hst : WFl (hn h) st) (hmo : hc (nw h k n.toNatClampNeg n.toNatClampNeg) ≤ hc (rH r) ∧ hs (nw h k n.toNatClampNeg n.toNatClampNeg) ≤ hs (rH r)) (K : Sem l L xs m (pc + 3) Ls (.ref (hn h) :: st) (nw h k n.toNatClampNeg n.toNatClampNeg) r) : Sem l L xs m pc Ls (.int n :: st) h r := by
  obtain ⟨hk3, w1⟩ := qRes_ok hk
  refine Sem.make hw hLs hst (fun D ca b As p e R s mid args below meth c Q A H locs cells slots ls hC hz hP hD hS hc1 hs1 k9 => ?_) hmo K
  obtain ⟨hx, hb, hr, hml, hown, hts, hlk, hnm9, htab, hRf, hRl, hK9, hG, hZ, hA9, hlaw, hcl9, hst9⟩ := id hC
  have hsz : n.toNatClampNeg ≤ 10000 := by
    have e1 := Int32.le_iff_toInt_le.mp h1
    have e2 : (10000 : Int32).toInt = 10000 := by decide
    have e3 := Int32.le_iff_toInt_le.mp h0
    have e4 : (0 : Int32).toInt = 0 := by decide
    have e5 : n.toNatClampNeg = n.toInt.toNat := rfl
    omega
  have hao : va_AO (cR (rowK k)) s := hG.2.2.2.2.2 _ (by rcases hk3 with e | e | e <;> rw [e] <;> simp [rowK, cR])
  refine va_newq hC.1 hC.2.1 hC.own (hts _ w1) hao hC.K hP hD hS hA9 (Int32.not_lt.mpr h0) rfl (by omega) hc1 hs1 hd (fun q cA H1 pK p1 p2 p3 => ?_)
  have ec : cA = ca (k - 8) := tys_last (k := k - 8) hK9 pK (tys_row hk3)
  subst ec
  have e : cont ca (fun j => if j = hn h then q else A j) (nw h k n.toNatClampNeg n.toNatClampNeg) (hn h) = .inl (ca (k - 8), n.toNatClampNeg, .inr (.inr (.inr (.inr (fun _ => none))))) := by
    have ek : hK (nw h k n.toNatClampNeg n.toNatClampNeg) (hn h) = k := by show (if hn h = hn h then k else hK h (hn h)) = k; rw [if_pos rfl]
    rw [cont_row (by rw [ek]; exact hk3), ek]
    have e1 : hN (nw h k n.toNatClampNeg n.toNatClampNeg) (hn h) = n.toNatClampNeg := by show (if hn h = hn h then _ else _) = n.toNatClampNeg; rw [if_pos rfl]
    have e2 : ∀ z, hQ (nw h k n.toNatClampNeg n.toNatClampNeg) (hn h) z = none := fun z => by show (if hn h = hn h then none else _) = none; rw [if_pos rfl]
    rw [e1]
    congr 7
    funext z
    rw [e2]
    rfl
  refine k9 q H1 ?_ ?_ p3
  · rw [e]; exact p1
  · rw [e]; exact p2
end
