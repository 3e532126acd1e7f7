/-! CALLS: a callee's run is its contract -/
section
variable {l : Launch} {L : Nat} {xs : Nat → Int32} {m y : MD} {pc : Nat} {Ls st vs : List Value} {h h' : AH} {r : Res}
def flatV (vs : List Value) : List Value := vs.flatMap (fun v => if v.category = 2 then [v, .null] else [v])
theorem flatV_args {A : Nat → Nat} {b : Nat} : ∀ (vs : List Value) (i0 i : Nat) (v : Value), (flatV vs)[i]? = some v → v ≠ .null → (i0 + i, tv A b v) ∈ lv_args i0 (vs.map (tv A b))
  | [], i0, i, v, h, _ => by simp [flatV] at h
  | w :: vs, i0, i, v, h, hn => by
    unfold flatV at h
    rw [List.flatMap_cons] at h
    rw [List.map_cons]
    unfold lv_args
    rw [tv_cat]
    by_cases hc : w.category = 2
    · rw [if_pos hc] at h ⊢
      match i, h with
      | 0, h => cases h; exact List.mem_cons_self
      | 1, h => cases h; exact absurd rfl hn
      | i + 2, h =>
        refine List.mem_cons_of_mem _ ?_
        have := flatV_args (A := A) (b := b) vs (i0 + 2) i v h hn
        rw [show i0 + (i + 2) = i0 + 2 + i by omega]
        exact this
    · rw [if_neg hc] at h ⊢
      match i, h with
      | 0, h => cases h; exact List.mem_cons_self
      | i + 1, h =>
        refine List.mem_cons_of_mem _ ?_
        have := flatV_args (A := A) (b := b) vs (i0 + 1) i v h hn
        rw [show i0 + (i + 1) = i0 + 1 + i by omega]
        exact this
theorem entL_args {A : Nat → Nat} {b n : Nat} {vs : List Value} {q : Nat × Value} (hq : q ∈ lvO A b (entL vs n)) : q ∈ lv_args 0 (vs.map (tv A b)) := by
  obtain ⟨v, h1, h2, h3⟩ := mem_lvO.mp hq
  have e : entL vs n = flatV vs ++ List.replicate (n - (flatV vs).length) .null := rfl
  rw [e] at h1
  by_cases hl : q.1 < (flatV vs).length
  · rw [List.getElem?_append_left hl] at h1
    have := flatV_args (A := A) (b := b) vs 0 q.1 v h1 h2
    rw [Nat.zero_add, ← h3] at this
    exact this
  · rw [List.getElem?_append_right (by omega)] at h1
    rw [List.getElem?_replicate] at h1
    split at h1
    · cases h1; exact absurd rfl h2
    · cases h1
theorem sl_len (A : Nat → Nat) (b : Nat) : ∀ vs : List Value, (lg_sl (vs.map (tv A b))).length = wds vs
  | [] => rfl
  | v :: vs => by
    have ih := sl_len A b vs
    unfold lg_sl wds at ih ⊢
    rw [List.map_cons, List.flatMap_cons, List.length_append, ih, List.map_cons, List.sum_cons, tv_cat]
    have hc : v.category = 1 ∨ v.category = 2 := lv_cat v
    rcases hc with e | e <;> rw [e] <;> rfl
/-- a callee's start -/
def SX (L : Nat) (xs : Nat → Int32) (y : MD) (b : Nat) (As : Nat → Prop) (s : State) : Prop := mC y = 8 → va_X b L xs s s.heap ∧ b < s.heap.size ∧ ¬ As b
def PcC (y : MD) (L : Nat) (xs : Nat → Int32) (D : va_G) (ca : Nat → ClassId) (b : Nat) (A : Nat → Nat) (h : AH) (sz : Nat) (vs : List Value) : Array Value → State → Prop := va_Pc (vs.map (tv A b)) (fun U => U.heap.size = sz ∧ va_P D vwCl (wld ca A h) U.heap ∧ va_K D vwCl (tysOf ca) U ∧ va_D (fun _ => True) (wld ca A h) ∧ GP U ∧ ZQ (va_A (wld ca A h) sz) U U.heap ∧ SX L xs y b (va_A (wld ca A h) sz) U)
def BC (D : va_G) (ca : Nat → ClassId) (h' : AH) (As : Nat → Prop) (u : Nat → Nat) (t : State) : Prop := va_P D vwCl (wld ca u h') t.heap ∧ va_D As (wld ca u h')
def QcC (v : Option Value) (n : Nat) (A : Nat → Nat) (B : (Nat → Nat) → State → Prop) (As : Nat → Prop) : Array Value → State → Outcome → State → Prop := match v with
  | some (.int x) => va_Qi (fun (r : Int32) (u : Nat → Nat) => r = x ∧ ∀ i, i < n → u i = A i) B As
  | some (.long x) => va_Ql (fun (r : Int64) (u : Nat → Nat) => r = x ∧ ∀ i, i < n → u i = A i) B As
  | some (.double x) => va_Qd (fun (r : UInt64) (u : Nat → Nat) => r = x ∧ ∀ i, i < n → u i = A i) B As
  | _ => va_Qv (fun (u : Nat → Nat) => ∀ i, i < n → u i = A i) B As
def wsM (y : MD) : List Cond := Cond.code (mN y) (mB y) (mM y) (mR y) :: GW
def wsW (y : MD) : List Cond := Cond.codeWith (mN y) (mB y) (mM y) (mR y) (mH y) :: GW
def rmC (y : MD) (mc ms : Nat) : Room := { frames := mV y, cells := mc, slots := ms, locals := 35 * mV y }
theorem PcC_blind {y : MD} {L : Nat} {xs : Nat → Int32} {D : va_G} {ca : Nat → ClassId} {b : Nat} {A : Nat → Nat} {sz : Nat} : FrameBlind (PcC y L xs D ca b A h sz vs) := by
  rintro a U g mk ⟨q1, q2, q3, q4, q5, q6, q7, q8⟩
  have hv : (U.calling g mk a).vm = U.vm := rfl
  exact ⟨q1, q2, q3, va_K.moved (u := U) (U := U.calling g mk a) (Vm.Alike.refl U.vm) q4, q5, GP.warm (s := U) (U := U.calling g mk a) (State.WarmedH.refl U) q6, ⟨vx_Zq.moved (u := U) (U := U.calling g mk a) (Vm.Alike.refl U.vm) q7.1, vx_Zq.moved (u := U) (U := U.calling g mk a) (Vm.Alike.refl U.vm) q7.2⟩, fun e8 => ⟨va_X.moved (u := U) (U := U.calling g mk a) (Vm.Alike.refl U.vm) (q8 e8).1, (q8 e8).2⟩⟩
theorem wld_free {D : va_G} {ca : Nat → ClassId} {As : Nat → Prop} {A : Nat → Nat} {s : State} {H : Heap} {locs : List Loc} (hD : va_D As (wld ca A h)) (hS : va_S As s.heap H locs) (hA : ∀ q : Nat, s.heap.size ≤ q → As q) : ∀ q, va_A (wld ca A h) H.size q → As q := by
  rintro q (⟨k, e, hk⟩ | hq)
  · exact hD.2 k (q, e) hk
  · exact hA q (Nat.le_trans hS.1 hq)
theorem PcC_at {D : va_G} {ca : Nat → ClassId} {b : Nat} {As : Nat → Prop} {p : Program} {R : Room} {s : State} {mid : MethodId} {args : Array Value} {meth : Method} {c : Code} {A : Nat → Nat} {H : Heap} {locs : List Loc} (hC : Cx l L xs m D ca b As p R s mid args meth c) (hP : va_P D vwCl (wld ca A h) H) (hD : va_D As (wld ca A h)) (hS : va_S As s.heap H locs) (h8c : mC y = 8 → mC m = 8) :
    ∀ U : State, U.heap = H → s.WarmedH U.vm → PcC y L xs D ca b A h H.size vs (vs.map (tv A b)).toArray U := by
  obtain ⟨hx, hb, hr, hml, hown, hts, hlk, hnm9, htab, hRf, hRl, hK9, hG, hZ, hA9, hlaw, hcl9, hst9⟩ := id hC
  intro U hU hW
  have hfr := wld_free (D := D) hD hS hA9
  refine ⟨rfl, by rw [hU], by rw [hU]; exact hP, hK9.moved hW.alike, hD.weaken (fun _ _ _ _ => trivial), hG.warm hW, ⟨?_, ?_⟩, fun e8 => ?_⟩
  · rw [hU]; exact ((hZ.1.kept hS.2.1).moved hW.alike).narrow hfr
  · rw [hU]; exact ((hZ.2.kept hS.2.1).moved hW.alike).narrow hfr
  · obtain ⟨x1, x2, x3⟩ := hlaw (h8c e8)
    rw [hU]
    exact ⟨(x1.kept (hS.2.1 b x2 x3)).moved hW.alike, Nat.lt_of_lt_of_le x2 hS.1, fun z => x3 (hfr b z)⟩
/-- the context of a callee's body -/
theorem Cx_body {D : va_G} {ca : Nat → ClassId} {b : Nat} {A : Nat → Nat} {p : Program} {e : Env} {s s₁ : State} {mid : MethodId} {args : Array Value} {below : List Frame} {meth : Method} {c : Code} {ws : List Cond} {mc ms : Nat} (hl : l.stackTraces = false) (hcl : (mN y).cls = ow (mC y)) 
    (B : BodyLoose p l (mN y) (headSpec ws (rmC y mc ms)) (mB y) (mM y) (mR y) e s mid args below meth c s₁) (hml : c.maxLocals = mM y) (hws : ∀ w ∈ GW, w ∈ ws) (htab : c.exceptionTable.toList = tableOf (mH y)) (hv : PcC y L xs D ca b A h s.heap.size vs args s) :
    Cx l L xs y D ca b (va_A (wld ca A h) s.heap.size) p (rmC y mc ms) s mid args meth c := by
  obtain ⟨-, -, hP, hK9, hD0, hG, hZ, h8x⟩ := hv
  have hts := atoms_spec (ws := ws) B.pre
  exact ⟨B.exec, B.bytes, B.returns, hml, findClass_of_methodNamed B.named, fun w hw => hts w (hws w hw), B.notSynchronized, (name_of_methodNamed B.named B.method).1, htab, rfl, Nat.le_refl _, hK9, hG, hZ, fun q hq => Or.inr hq, h8x, hcl, hl⟩
/-- from the body's start to its end, for any end -/
theorem body_sem {D : va_G} {ca : Nat → ClassId} {b : Nat} {A : Nat → Nat} {p : Program} {e : Env} {s : State} {mid : MethodId} {args : Array Value} {below : List Frame} {meth : Method} {c : Code} {ws : List Cond} {Q : State → Prop} {mc ms : Nat} (hS : Sem l L xs y 0 (entL vs (mM y)) [] h r) (hlen : wds vs ≤ mM y)
    (hC : Cx l L xs y D ca b (va_A (wld ca A h) s.heap.size) p (rmC y mc ms) s mid args meth c) (hmc : hc (rH r) ≤ mc + hc h) (hms : hs (rH r) ≤ ms + hs h) (hv : PcC y L xs D ca b A h s.heap.size vs args s)
    (hE : Kr y D ca (va_A (wld ca A h) s.heap.size) p l e (rmC y mc ms) s mid args below meth c Q (hc h) (hs h) (hn h) A r) :
    W p l e (headSpec ws (rmC y mc ms)).room s mid args below meth c s.heap [] 0 0 Q (entryFrame mid args (mM y)) := by
  obtain ⟨rfl, -, hP, hK9, hD0, hG, hZ, -⟩ := hv
  have hlen' : (lg_sl (vs.map (tv A b))).length ≤ mM y := by rw [sl_len]; exact hlen
  have hl0 := lv_entry (vs.map (tv A b)) (n := mM y) hlen'
  rw [lg_entry_eq]
  exact hS D ca b _ p e (rmC y mc ms) s mid _ below meth c Q (hc h) (hs h) (hn h) A hC hE A s.heap [] 0 0 _ (Nat.le_refl _) (fun _ _ => rfl) ⟨hP, hD0.self, va_S.rf, Nat.zero_add _, Nat.zero_add _⟩ hmc hms (lv_mono hl0 (fun q hq => entL_args hq))
theorem Kr_ret {D : va_G} {ca : Nat → ClassId} {p : Program} {e : Env} {R : Room} {s : State} {mid : MethodId} {args : Array Value} {below : List Frame} {meth : Method} {c : Code} {b : Nat} {As : Nat → Prop} {A : Nat → Nat} {v : Option Value} (hC : Cx l L xs y D ca b As p R s mid args meth c) :
    Kr y D ca As p l e R s mid args below meth c (MQ below (QcC v (hn h) A (BC D ca h' As) As) args s (hc h' - hc h) (hs h' - hs h) As) (hc h) (hs h) (hn h) A (.inl (v, h')) := by
  obtain ⟨hx, hb, hr, hml, hown, hts, hlk, hnm9, htab, hRf, hRl, hK9, hG, hZ, hA9, hlaw, hcl9, hst9⟩ := id hC
  refine ⟨?_, fun A' H locs cells slots pc ls E h1 he => by cases he⟩
  intro A' H locs cells slots pc ls v' h1 he hag hpos hret
  cases he
  obtain ⟨hP, hD, hS, h4, h5⟩ := hpos
  have e4 : hc h' - hc h = cells := by omega
  have e5 : hs h' - hs h = slots := by omega
  rw [e4, e5]
  cases v with
  | none =>
    obtain ⟨hd, hrr⟩ := hret
    exact W.vret hx hb (hr.trans hrr) (fun t ht hW => ⟨⟨A', rfl, hag, by rw [ht]; exact hP, hD⟩, hS.F ht⟩) hS.2.2 hd hlk
  | some w =>
    cases w with
    | int x =>
      obtain ⟨hd, hrr | ⟨hrr, hx01⟩⟩ := hret
      · exact W.iret hx hb (hr.trans hrr) (fun t ht hW => ⟨⟨x, A', rfl, ⟨rfl, hag⟩, by rw [ht]; exact hP, hD⟩, hS.F ht⟩) hS.2.2 hd hlk
      · refine W.zret hx hb (hr.trans hrr) (by rcases hx01 with e | e <;> subst e <;> decide) (fun t ht hW => ⟨⟨x, A', rfl, ⟨rfl, hag⟩, by rw [ht]; exact hP, hD⟩, hS.F ht⟩) hS.2.2 hd hlk
    | long x =>
      obtain ⟨hd, hrr⟩ := hret
      exact W.lret hx hb (hr.trans hrr) (fun t ht hW => ⟨⟨x, A', rfl, ⟨rfl, hag⟩, by rw [ht]; exact hP, hD⟩, hS.F ht⟩) hS.2.2 hd hlk
    | double x =>
      obtain ⟨hd, hrr⟩ := hret
      exact W.dret hx hb (hr.trans hrr) (fun t ht hW => ⟨⟨x, A', rfl, ⟨rfl, hag⟩, by rw [ht]; exact hP, hD⟩, hS.F ht⟩) hS.2.2 hd hlk
    | _ => exact hret.elim
/-- a method that returns: its contract -/
theorem met_ret {D : va_G} {ca : Nat → ClassId} {b : Nat} {A : Nat → Nat} {sz : Nat} {v : Option Value} (hl : l.stackTraces = false) (hS : Sem l L xs y 0 (entL vs (mM y)) [] h (.inl (v, h'))) (hlen : wds vs ≤ mM y) (hpl : plainName (mN y).cls = true) (hcl : (mN y).cls = ow (mC y))  (hno : mH y = []) :
    Met l (mN y) (wsM y) (rmC y (hc h' - hc h) (hs h' - hs h)) (PcC y L xs D ca b A h sz vs) (QcC v (hn h) A (BC D ca h' (va_A (wld ca A h) sz)) (va_A (wld ca A h) sz)) (hc h' - hc h) (hs h' - hs h) (va_A (wld ca A h) sz) := by
  refine Met.ofW (cc := mB y) (maxL := mM y) (ret := mR y) hpl rfl ?_
  intro p e s mid args below meth c s₁ B hml hv
  have hsz := hv.2.1
  subst hsz
  have htab : c.exceptionTable.toList = tableOf (mH y) := by
    rw [hno]
    obtain ⟨meth9, c9, z1, z2, -, -, -, -, z7, -⟩ := Cond.code_spec B.named (atoms_spec (ws := wsM y) B.pre _ List.mem_cons_self)
    cases Option.some.inj (z1.symm.trans B.method)
    cases Option.some.inj (z2.symm.trans (Stand.of_body B).code)
    rw [Array.isEmpty_iff.mp z7]
    rfl
  have hC := Cx_body (L := L) (xs := xs) hl hcl B hml (fun w hw => List.mem_cons_of_mem _ hw) htab hv
  exact body_sem (ws := wsM y) hS hlen hC (by show hc h' ≤ _; omega) (by show hs h' ≤ _; omega) hv (Kr_ret hC)
/-- .. with a table of its own -/
theorem met_retW {D : va_G} {ca : Nat → ClassId} {b : Nat} {A : Nat → Nat} {sz : Nat} {v : Option Value} (hl : l.stackTraces = false) (hS : Sem l L xs y 0 (entL vs (mM y)) [] h (.inl (v, h'))) (hlen : wds vs ≤ mM y) (hpl : plainName (mN y).cls = true) (hcl : (mN y).cls = ow (mC y))  :
    Met l (mN y) (wsW y) (rmC y (hc h' - hc h) (hs h' - hs h)) (PcC y L xs D ca b A h sz vs) (QcC v (hn h) A (BC D ca h' (va_A (wld ca A h) sz)) (va_A (wld ca A h) sz)) (hc h' - hc h) (hs h' - hs h) (va_A (wld ca A h) sz) := by
  refine va_MetW (cc := mB y) (maxL := mM y) (ret := mR y) (hh := mH y) hpl rfl ?_
  intro p e s mid args below meth c s₁ B hml hv
  have hsz := hv.2.1
  subst hsz
  have htab : c.exceptionTable.toList = tableOf (mH y) := vx_table (y := mN y) (x := mN y) B (atoms_spec (ws := wsW y) B.pre _ List.mem_cons_self)
  have hC := Cx_body (L := L) (xs := xs) hl hcl B hml (fun w hw => List.mem_cons_of_mem _ hw) htab hv
  exact body_sem (ws := wsW y) hS hlen hC (by show hc h' ≤ _; omega) (by show hs h' ≤ _; omega) hv (Kr_ret hC)
end
