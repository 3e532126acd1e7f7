/-! WHAT AN ABSTRACT STATE SAYS OF THE MACHINE, and the rows: an abstract step is a step of the machine -/
abbrev tysOf (ca : Nat → ClassId) : List (ClassId × FieldType) := [(ca 0, .int), (ca 1, .object RX0), (ca 2, .object RX2), (ca 3, .object RX5), (ca 4, .int)]
def tv (A : Nat → Nat) (b : Nat) (v : Value) : Value := match v with
  | .ref i => .ref (A i)
  | .retAddr _ => .ref b
  | w => w
def fvl (A : Nat → Nat) (h : AH) (k i s : Nat) : Value := if isRf k s then va_rf ((hR h (16 * k + s) i).map A) else .int (hI h (16 * k + s) i)
def cont (ca : Nat → ClassId) (A : Nat → Nat) (h : AH) (i : Nat) : va_E :=
  if hK h i < 8 then .inr (hK h i, (List.range (cN (hK h i))).map (fvl A h (hK h i) i))
  else if hK h i = 8 then .inl (ca 0, hN h i, .inl (hA h i))
  else if hK h i = 12 then .inl (ca 4, hN h i, .inr (.inl (hL h i)))
  else .inl (ca (hK h i - 8), hN h i, .inr (.inr (.inr (.inr (fun j => (hQ h i j).map A)))))
def wld (ca : Nat → ClassId) (A : Nat → Nat) (h : AH) : va_W := (List.range (hn h)).map fun i => (A i, cont ca A h i)
theorem wld_at {ca : Nat → ClassId} {A : Nat → Nat} {h : AH} {i : Nat} (hi : i < hn h) : (wld ca A h)[i]? = some (A i, cont ca A h i) := by
  unfold wld
  rw [List.getElem?_map, List.getElem?_range hi]
  rfl
theorem wld_len {ca : Nat → ClassId} {A : Nat → Nat} {h : AH} : (wld ca A h).length = hn h := by simp [wld]
theorem wld_set {ca : Nat → ClassId} {A : Nat → Nat} {h h' : AH} {i : Nat} {e : va_E} (hn' : hn h' = hn h) (he : e = cont ca A h' i) (hne : ∀ j, j ≠ i → cont ca A h' j = cont ca A h j) : (wld ca A h).set i (A i, e) = wld ca A h' := by
  subst he
  apply List.ext_getElem?
  intro j
  rw [List.getElem?_set, wld_len]
  by_cases hj : i = j
  · subst hj
    rw [if_pos rfl]
    by_cases hl : i < hn h
    · rw [if_pos hl, wld_at (by rw [hn']; exact hl)]
    · rw [if_neg hl, List.getElem?_eq_none (by rw [wld_len, hn']; omega)]
  · rw [if_neg hj]
    by_cases hl : j < hn h
    · rw [wld_at hl, wld_at (by rw [hn']; exact hl), hne j (fun z => hj z.symm)]
    · rw [List.getElem?_eq_none (by rw [wld_len]; omega), List.getElem?_eq_none (by rw [wld_len, hn']; omega)]
theorem wld_push {ca : Nat → ClassId} {A A' : Nat → Nat} {h h' : AH} {q : Nat} {e : va_E} (hn' : hn h' = hn h + 1) (hA : ∀ j, j < hn h → A' j = A j) (hq : A' (hn h) = q) (he : e = cont ca A' h' (hn h)) (hne : ∀ j, j < hn h → cont ca A' h' j = cont ca A h j) : wld ca A h ++ [(q, e)] = wld ca A' h' := by
  unfold wld
  rw [hn', List.range_succ, List.map_append]
  congr 1
  · apply List.map_congr_left
    intro j hj
    rw [List.mem_range] at hj
    rw [hA j hj, hne j hj]
  · rw [he, ← hq]
    rfl
/-- well-formed: a reference names a thing that is there -/
def WFh (h : AH) : Prop := (∀ F i j, hR h F i = some j → j < hn h) ∧ ∀ a k j, hQ h a k = some j → j < hn h
def WFl (n : Nat) (l : List Value) : Prop := ∀ i, Value.ref i ∈ l → i < n
def lvO (A : Nat → Nat) (b : Nat) (Ls : List Value) : List (Nat × Value) := (List.range Ls.length).filterMap fun i => match (Ls[i]? : Option Value) with
  | some Value.null => none
  | some v => some (i, tv A b v)
  | none => none
theorem mem_lvO {A : Nat → Nat} {b : Nat} {Ls : List Value} {q : Nat × Value} : q ∈ lvO A b Ls ↔ ∃ v, Ls[q.1]? = some v ∧ v ≠ .null ∧ q.2 = tv A b v := by
  unfold lvO
  rw [List.mem_filterMap]
  constructor
  · rintro ⟨i, hi, he⟩
    split at he
    · cases he
    · rename_i v hv hl
      cases he
      refine ⟨v, hl, fun h => ?_, rfl⟩
      subst h
      exact hv rfl
    · cases he
  · rintro ⟨v, hv, hn, he⟩
    refine ⟨q.1, List.mem_range.mpr (List.getElem?_eq_some_iff.mp hv).1, ?_⟩
    rw [hv]
    obtain ⟨i, w⟩ := q
    dsimp only at he ⊢
    subst he
    cases v <;> first | rfl | exact absurd rfl hn
theorem lvO_at {A : Nat → Nat} {b n : Nat} {Ls : List Value} {ls : Array Slot} {i : Nat} {v : Value} (h : lv_has ls n (lvO A b Ls)) (hv : Ls[i]? = some v) (hn : v ≠ .null) : ls[i]? = some (.val (tv A b v)) := h.2.2 (i, tv A b v) (mem_lvO.mpr ⟨v, hv, hn, rfl⟩)
theorem lv_mono {ls : Array Slot} {n : Nat} {l l' : List (Nat × Value)} (h : lv_has ls n l) (hm : ∀ q ∈ l', q ∈ l) : lv_has ls n l' := ⟨h.1, h.2.1, fun q hq => h.2.2 q (hm q hq)⟩
theorem tv_cat (A : Nat → Nat) (b : Nat) (v : Value) : (tv A b v).category = v.category := by cases v <;> rfl
theorem catOK_spec {Ls : List Value} {i : Nat} (h : catOK Ls i = true) {j : Nat} {v : Value} (hj : j + 1 = i) (hv : Ls[j]? = some v) : v.category = 1 := by
  unfold catOK at h
  rw [Bool.or_eq_true, beq_iff_eq, beq_iff_eq] at h
  rcases h with h | h
  · omega
  · have e : i - 1 = j := by omega
    rw [e, List.getD_eq_getElem?_getD, hv] at h
    exact h
theorem lvO_set1 {A : Nat → Nat} {b : Nat} {Ls : List Value} {i : Nat} {v w : Value} (hc : catOK Ls i = true) (hw : w = .null ∨ tv A b w = v) : ∀ q ∈ lvO A b (Ls.set i w), q ∈ (i, v) :: (lvO A b Ls).filter (fun q => !(q.1 == i) && !(q.1 + 1 == i && q.2.category == 2)) := by
  intro q hq
  obtain ⟨u, h1, h2, h3⟩ := mem_lvO.mp hq
  rw [List.getElem?_set] at h1
  by_cases hi : i = q.1
  · rw [if_pos hi] at h1
    split at h1
    · cases h1
      rcases hw with hw | hw
      · exact absurd hw h2
      · have : q = (i, v) := by rw [← hw, ← h3, hi]
        rw [this]; exact List.mem_cons_self
    · cases h1
  · rw [if_neg hi] at h1
    refine List.mem_cons_of_mem _ (List.mem_filter.mpr ⟨mem_lvO.mpr ⟨u, h1, h2, h3⟩, ?_⟩)
    have e1 : (q.1 == i) = false := by rw [beq_eq_false_iff_ne]; exact fun z => hi z.symm
    have e2 : (q.1 + 1 == i && q.2.category == 2) = false := by
      rw [Bool.and_eq_false_iff, beq_eq_false_iff_ne, beq_eq_false_iff_ne]
      by_cases hj : q.1 + 1 = i
      · right
        rw [h3, tv_cat, catOK_spec hc hj h1]
        decide
      · left; exact hj
    rw [e1, e2]; rfl
theorem lvO_set2 {A : Nat → Nat} {b : Nat} {Ls : List Value} {i : Nat} {v w : Value} (hc : catOK Ls i = true) (hw : tv A b w = v) : ∀ q ∈ lvO A b ((Ls.set i w).set (i + 1) .null), q ∈ (i, v) :: (lvO A b Ls).filter (fun q => !(q.1 == i) && (!(q.1 == i + 1) && !(q.1 + 1 == i && q.2.category == 2))) := by
  intro q hq
  obtain ⟨u, h1, h2, h3⟩ := mem_lvO.mp hq
  rw [List.getElem?_set] at h1
  by_cases hi1 : i + 1 = q.1
  · rw [if_pos hi1] at h1
    split at h1
    · cases h1; exact absurd rfl h2
    · cases h1
  · rw [if_neg hi1] at h1
    have hq1 : q ∈ lvO A b (Ls.set i w) := mem_lvO.mpr ⟨u, h1, h2, h3⟩
    have := lvO_set1 (v := v) hc (Or.inr hw) q hq1
    rcases List.mem_cons.mp this with h | h
    · rw [h]; exact List.mem_cons_self
    · obtain ⟨h4, h5⟩ := List.mem_filter.mp h
      refine List.mem_cons_of_mem _ (List.mem_filter.mpr ⟨h4, ?_⟩)
      rw [Bool.and_eq_true] at h5 ⊢
      refine ⟨h5.1, ?_⟩
      rw [Bool.and_eq_true]
      refine ⟨?_, h5.2⟩
      rw [Bool.not_eq_true', beq_eq_false_iff_ne]
      exact fun z => hi1 z.symm
/-- what stays of the tables, and is no good word -/
def exL : List String := ["java/lang/IllegalArgumentException", "java/lang/IllegalStateException", "java/lang/IndexOutOfBoundsException"]
def declL : List MethodName := [⟨"java/lang/RuntimeException", "<init>", "()V"⟩, ⟨"java/lang/RuntimeException", "<init>", "(Ljava/lang/String;)V"⟩, ⟨"java/lang/Exception", "<init>", "()V"⟩, ⟨"java/lang/Exception", "<init>", "(Ljava/lang/String;)V"⟩, ⟨"java/lang/Throwable", "<init>", "()V"⟩, ⟨"java/lang/Throwable", "<init>", "(Ljava/lang/String;)V"⟩]
/-- no class of an exception that the law catches -/
def exN : List String := []
def GP (s : State) : Prop := (∀ q ∈ nestL, va_Nw (.methodLinkNest q.1 q.2.1 q.2.2 "CrossingPosts") s) ∧ (∀ E ∈ exL, va_Nw (.castable E E) s) ∧ (∀ x ∈ declL, va_Nw (.declares x) s) ∧ (∀ E ∈ exL, ∀ E' ∈ exN, E ≠ E' → va_Nc E E' s) ∧ (∀ q ∈ sRT, ∃ sa, vk_R RX6 q.1 q.2 sa s) ∧ ∀ C ∈ [RX0, RX2, RX5], va_AO C s
theorem GP.warm {s U : State} (hW : s.WarmedH U.vm) (h : GP s) : GP U := by
  obtain ⟨h1, h2, h3, h4, h5, h6⟩ := h
  refine ⟨fun q hq => (h1 q hq).warmM hW, fun E hE => (h2 E hE).warmC hW, fun x hx => (h3 x hx).warmD hW, fun E hE E' hE' hne => (h4 E hE E' hE' hne).moved hW.alike, fun q hq => ?_, fun C hC => (h6 C hC).moved hW.alike⟩
  obtain ⟨sa, ha⟩ := h5 q hq
  exact ⟨sa, ha.warm hW⟩
def ZQ (As : Nat → Prop) (s : State) (H : Heap) : Prop := vx_Zq Bundle.tN "UNASSIGNED_STACK" Bundle.steD As s H ∧ vx_Zq Bundle.tN "SUPPRESSED_SENTINEL" Bundle.listD As s H
/-- a method's frame, as far as the run doesn't change it -/
def Cx (l : Launch) (L : Nat) (xs : Nat → Int32) (m : MD) (D : va_G) (ca : Nat → ClassId) (b : Nat) (As : Nat → Prop) (p : Program) (R : Room) (s : State) (mid : MethodId) (args : Array Value) (meth : Method) (c : Code) : Prop :=
  p.tables.exec = Jvm.exec ∧ c.code = mB m ∧ meth.sig.returnType = mR m ∧ c.maxLocals = mM m ∧ s.vm.findClass (mN m).cls = some mid.cls ∧ (∀ w ∈ GW, w.before args s = true) ∧ meth.locks = false ∧ meth.name = (mN m).name ∧ c.exceptionTable.toList = tableOf (mH m) ∧ R.frames = mV m ∧ 35 * mV m ≤ R.locals ∧
  va_K D vwCl (tysOf ca) s ∧ GP s ∧ ZQ As s s.heap ∧ (∀ q : Nat, s.heap.size ≤ q → As q) ∧ (mC m = 8 → va_X b L xs s s.heap ∧ b < s.heap.size ∧ ¬ As b) ∧ (mN m).cls = ow (mC m) ∧ l.stackTraces = false
/-- where the walk stands in the heap -/
def Pos (D : va_G) (ca : Nat → ClassId) (A : Nat → Nat) (As : Nat → Prop) (s : State) (h : AH) (H : Heap) (locs : List Loc) (cells slots c0 s0 : Nat) : Prop :=
  va_P D vwCl (wld ca A h) H ∧ va_D As (wld ca A h) ∧ va_S As s.heap H locs ∧ cells + c0 = hc h ∧ slots + s0 = hs h
def retOK (b : ByteArray) (ret : Option FieldType) (pc : Nat) (v : Option Value) : Prop := match v with
  | none => decode b pc = .ok (.return_, 1) ∧ ret = none
  | some (.int x) => decode b pc = .ok (.ireturn, 1) ∧ (ret = some .int ∨ (ret = some .boolean ∧ (x = 0 ∨ x = 1)))
  | some (.long _) => decode b pc = .ok (.lreturn, 1) ∧ ret = some .long
  | some (.double _) => decode b pc = .ok (.dreturn, 1) ∧ ret = some .double
  | _ => False
def thrOK (m : MD) (pc : Nat) (E : String) : Prop := ∃ ik is ic tx, decode (mB m) pc = .ok (.new ik, 3) ∧ decode (mB m) (pc + 3) = .ok (.dup, 1) ∧ ((decode (mB m) (pc + 4) = .ok (.ldc is, 2) ∧ decode (mB m) (pc + 6) = .ok (.invokespecial ic, 3) ∧ decode (mB m) (pc + 9) = .ok (.athrow, 1)) ∨ (decode (mB m) (pc + 4) = .ok (.ldc_w is, 3) ∧ decode (mB m) (pc + 7) = .ok (.invokespecial ic, 3) ∧ decode (mB m) (pc + 10) = .ok (.athrow, 1))) ∧ xRes ik ic = some E ∧ (is, tx) ∈ sRT ∧ mC m = 6 ∧ mV m = 8 ∧ mH m = []
/-- the ends that a body owes -/
def Kr (m : MD) (D : va_G) (ca : Nat → ClassId) (As : Nat → Prop) (p : Program) (l : Launch) (e : Env) (R : Room) (s : State) (mid : MethodId) (args : Array Value) (below : List Frame) (meth : Method) (c : Code) (Q : State → Prop) (c0 s0 n0 : Nat) (A0 : Nat → Nat) (r : Res) : Prop :=
  (∀ (A : Nat → Nat) (H : Heap) (locs : List Loc) (cells slots pc : Nat) (ls : Array Slot) (v : Option Value) (h : AH), r = .inl (v, h) → (∀ i, i < n0 → A i = A0 i) → Pos D ca A As s h H locs cells slots c0 s0 → retOK (mB m) (mR m) pc v → W p l e R s mid args below meth c H locs cells slots Q (F0 mid pc ls v.toList)) ∧
  (∀ (A : Nat → Nat) (H : Heap) (locs : List Loc) (cells slots pc : Nat) (ls : Array Slot) (E : String) (h : AH), r = .inr (E, bump h) → (∀ i, i < n0 → A i = A0 i) → Pos D ca A As s h H locs cells slots c0 s0 → thrOK m pc E → ls.size = c.maxLocals → W p l e R s mid args below meth c H locs cells slots Q (F0 mid pc ls []))
def Sem (l : Launch) (L : Nat) (xs : Nat → Int32) (m : MD) (pc : Nat) (Ls st : List Value) (h : AH) (r : Res) : Prop :=
  ∀ (D : va_G) (ca : Nat → ClassId) (b : Nat) (As : Nat → Prop) (p : Program) (e : Env) (R : Room) (s : State) (mid : MethodId) (args : Array Value) (below : List Frame) (meth : Method) (c : Code) (Q : State → Prop) (c0 s0 n0 : Nat) (A0 : Nat → Nat),
    Cx l L xs m D ca b As p R s mid args meth c → Kr m D ca As p l e R s mid args below meth c Q c0 s0 n0 A0 r →
    ∀ (A : Nat → Nat) (H : Heap) (locs : List Loc) (cells slots : Nat) (ls : Array Slot), n0 ≤ hn h → (∀ i, i < n0 → A i = A0 i) → Pos D ca A As s h H locs cells slots c0 s0 →
      hc (rH r) ≤ R.cells + c0 → hs (rH r) ≤ R.slots + s0 → lv_has ls (mM m) (lvO A b Ls) →
      W p l e R s mid args below meth c H locs cells slots Q (F0 mid pc ls (st.map (tv A b)))
section
variable {l : Launch} {L : Nat} {xs : Nat → Int32} {m : MD} {pc pc' : Nat} {Ls st st' : List Value} {h : AH} {r : Res}
/-- an instruction that moves the operand stack alone -/
theorem Sem.pure (hrow : ∀ (D : va_G) (ca : Nat → ClassId) (b : Nat) (As : Nat → Prop) (p : Program) (e : Env) (R : Room) (s : State) (mid : MethodId) (args : Array Value) (below : List Frame) (meth : Method) (c : Code) (Q : State → Prop) (A : Nat → Nat) (H : Heap) (locs : List Loc) (cells slots : Nat) (ls : Array Slot),
    Cx l L xs m D ca b As p R s mid args meth c → lv_has ls (mM m) (lvO A b Ls) → va_S As s.heap H locs → W p l e R s mid args below meth c H locs cells slots Q (F0 mid pc' ls (st'.map (tv A b))) → W p l e R s mid args below meth c H locs cells slots Q (F0 mid pc ls (st.map (tv A b))))
    (k : Sem l L xs m pc' Ls st' h r) : Sem l L xs m pc Ls st h r := by
  intro D ca b As p e R s mid args below meth c Q c0 s0 n0 A0 hC hE A H locs cells slots ls h1 h2 h3 h4 h5 h6
  exact hrow D ca b As p e R s mid args below meth c Q A H locs cells slots ls hC h6 h3.2.2.1 (k D ca b As p e R s mid args below meth c Q c0 s0 n0 A0 hC hE A H locs cells slots ls h1 h2 h3 h4 h5 h6)
/-- an instruction that moves locals and stack -/
theorem Sem.loc {Ls' : List Value} (hrow : ∀ (D : va_G) (ca : Nat → ClassId) (b : Nat) (As : Nat → Prop) (p : Program) (e : Env) (R : Room) (s : State) (mid : MethodId) (args : Array Value) (below : List Frame) (meth : Method) (c : Code) (Q : State → Prop) (A : Nat → Nat) (H : Heap) (locs : List Loc) (cells slots : Nat) (ls : Array Slot),
    Cx l L xs m D ca b As p R s mid args meth c → lv_has ls (mM m) (lvO A b Ls) → (∀ ls' : Array Slot, lv_has ls' (mM m) (lvO A b Ls') → W p l e R s mid args below meth c H locs cells slots Q (F0 mid pc' ls' (st'.map (tv A b)))) → W p l e R s mid args below meth c H locs cells slots Q (F0 mid pc ls (st.map (tv A b))))
    (k : Sem l L xs m pc' Ls' st' h r) : Sem l L xs m pc Ls st h r := by
  intro D ca b As p e R s mid args below meth c Q c0 s0 n0 A0 hC hE A H locs cells slots ls h1 h2 h3 h4 h5 h6
  exact hrow D ca b As p e R s mid args below meth c Q A H locs cells slots ls hC h6 (fun ls' h6' => k D ca b As p e R s mid args below meth c Q c0 s0 n0 A0 hC hE A H locs cells slots ls' h1 h2 h3 h4 h5 h6')
end
