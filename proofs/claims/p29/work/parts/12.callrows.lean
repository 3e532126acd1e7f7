/-! THE ROWS OF CALLS -/
section
variable {l : Launch} {L : Nat} {xs : Nat → Int32} {m y : MD} {pc i n : Nat} {Ls st vs rest : List Value} {h h' : AH} {r : Res}
theorem mRes_ok {c : Nat} {mode : Nat} (h : mRes c i = some (y, mode, n)) : ∃ ps, okM (c, i, y, mode, n, ps) = true := by
  unfold mRes at h
  obtain ⟨q, hq, he⟩ := Option.map_eq_some_iff.mp h
  have hp := List.find?_some hq
  rw [Bool.and_eq_true, beq_iff_eq, beq_iff_eq] at hp
  have ho := mRT_ok q (List.mem_of_find?_eq_some hq)
  obtain ⟨q1, q2, q3, q4, q5, q6⟩ := q
  cases he
  obtain ⟨rfl, rfl⟩ := hp
  exact ⟨q6, ho⟩
def Com (c : Nat) (y : MD) (n : Nat) : Prop := (mM y ≤ 16 ∧ (mC y = 8 → c = 8)) ∧ (mN y).cls = ow (mC y) ∧ plainName (mN y).cls = true ∧ ((mN y).cls ≠ "java/lang/invoke/MethodHandle" ∧ (mN y).cls ≠ "java/lang/invoke/VarHandle" ∧ (parseMethodDescriptor (mN y).desc).map (fun d => d.parameters.length) = some n)
theorem mres0 {c : Nat} (h : mRes c i = some (y, 0, n)) : Com c y n ∧ Cond.methodLink (ow c) i (mN y) ∈ GW ∧ Cond.initialized (mN y).cls ∈ GW ∧ Cond.code (mN y) (mB y) (mM y) (mR y) ∈ GW ∧ mH y = [] ∧ Cond.static (mN y) ∈ GW := by
  obtain ⟨ps, hk⟩ := mRes_ok h
  unfold okM at hk
  dsimp only at hk
  rw [if_neg (by decide), if_neg (by decide), if_neg (by decide), if_neg (by decide), if_neg (by decide), if_pos (by decide)] at hk
  simp only [Bool.and_eq_true, decide_eq_true_eq] at hk
  obtain ⟨⟨⟨⟨⟨-, k1⟩, k2⟩, k3⟩, k4⟩, ⟨⟨k5, k6⟩, k7, k8⟩, k9⟩ := hk
  exact ⟨⟨k1, k2, k3, k4⟩, atW_mem k5, atW_mem k6, atW_mem k7, k8, atW_mem k9⟩
theorem mres6 {c : Nat} (h : mRes c i = some (y, 6, n)) : Com c y n ∧ Cond.methodLink (ow c) i (mN y) ∈ GW ∧ Cond.initialized (mN y).cls ∈ GW ∧ Cond.codeWith (mN y) (mB y) (mM y) (mR y) (mH y) ∈ GW ∧ Cond.static (mN y) ∈ GW := by
  obtain ⟨ps, hk⟩ := mRes_ok h
  unfold okM at hk
  dsimp only at hk
  rw [if_neg (by decide), if_neg (by decide), if_neg (by decide), if_neg (by decide), if_pos (by decide), if_pos (by decide)] at hk
  simp only [Bool.and_eq_true, decide_eq_true_eq] at hk
  obtain ⟨⟨⟨⟨⟨-, k1⟩, k2⟩, k3⟩, k4⟩, ⟨⟨k5, k6⟩, k7⟩, k9⟩ := hk
  exact ⟨⟨k1, k2, k3, k4⟩, atW_mem k5, atW_mem k6, atW_mem k7, atW_mem k9⟩
theorem mres1 {c mode : Nat} (hmd : mode = 1 ∨ mode = 5) (h : mRes c i = some (y, mode, n)) : Com c y n ∧ Cond.methodLink (ow c) i (mN y) ∈ GW ∧ Cond.initialized (mN y).cls ∈ GW ∧ Cond.code (mN y) (mB y) (mM y) (mR y) ∈ GW ∧ mH y = [] ∧ Cond.instanceMethod (mN y) ∈ GW ∧ Cond.selects (mN y).cls (mN y) (mN y) ∈ GW := by
  obtain ⟨ps, hk⟩ := mRes_ok h
  unfold okM at hk
  dsimp only at hk
  rw [if_neg (by omega), if_neg (by omega), if_neg (by omega), if_neg (by omega), if_neg (by omega), if_neg (by omega), if_neg (by omega)] at hk
  simp only [Bool.and_eq_true, decide_eq_true_eq] at hk
  obtain ⟨⟨⟨⟨⟨-, k1⟩, k2⟩, k3⟩, k4⟩, ⟨⟨k5, k6⟩, k7, k8⟩, k9, k10⟩ := hk
  exact ⟨⟨k1, k2, k3, k4⟩, atW_mem k5, atW_mem k6, atW_mem k7, k8, atW_mem k9, atW_mem k10⟩
theorem mres2 {c : Nat} (h : mRes c i = some (y, 2, n)) : Com c y n ∧ Cond.methodLink (ow c) i (mN y) ∈ GW ∧ Cond.initialized (mN y).cls ∈ GW ∧ Cond.code (mN y) (mB y) (mM y) (mR y) ∈ GW ∧ mH y = [] ∧ Cond.instanceMethod (mN y) ∈ GW ∧ (mN y).name = "<init>" ∧ mR y = none := by
  obtain ⟨ps, hk⟩ := mRes_ok h
  unfold okM at hk
  dsimp only at hk
  rw [if_neg (by decide), if_neg (by decide), if_neg (by decide), if_neg (by decide), if_neg (by decide), if_neg (by decide), if_pos (by decide)] at hk
  simp only [Bool.and_eq_true, decide_eq_true_eq] at hk
  obtain ⟨⟨⟨⟨⟨-, k1⟩, k2⟩, k3⟩, k4⟩, ⟨⟨k5, k6⟩, k7, k8⟩, k9, k10⟩ := hk
  exact ⟨⟨k1, k2, k3, k4⟩, atW_mem k5, atW_mem k6, atW_mem k7, k8, atW_mem k9, k10⟩
theorem mres3 {c : Nat} (h : mRes c i = some (y, 3, n)) : Com c y n ∧ (ow c, i, mN y) ∈ nestL ∧ Cond.initialized (mN y).cls ∈ GW ∧ Cond.code (mN y) (mB y) (mM y) (mR y) ∈ GW ∧ mH y = [] ∧ Cond.static (mN y) ∈ GW := by
  obtain ⟨ps, hk⟩ := mRes_ok h
  unfold okM at hk
  dsimp only at hk
  rw [if_neg (by decide), if_neg (by decide), if_neg (by decide), if_pos (by decide), if_pos (by decide)] at hk
  simp only [Bool.and_eq_true, decide_eq_true_eq] at hk
  obtain ⟨⟨⟨⟨⟨-, k1⟩, k2⟩, k3⟩, k4⟩, ⟨⟨⟨k5, k6⟩, k7⟩, k9⟩, k8⟩ := hk
  exact ⟨⟨k1, k2, k3, k4⟩, k5, atW_mem k6, atW_mem k7, k8, atW_mem k9⟩
theorem mres4 {c : Nat} (h : mRes c i = some (y, 4, n)) : Com c y n ∧ (ow c, i, mN y) ∈ nestL ∧ Cond.initialized (mN y).cls ∈ GW ∧ Cond.code (mN y) (mB y) (mM y) (mR y) ∈ GW ∧ mH y = [] ∧ Cond.instanceMethod (mN y) ∈ GW ∧ (mN y).name = "<init>" ∧ mR y = none := by
  obtain ⟨ps, hk⟩ := mRes_ok h
  unfold okM at hk
  dsimp only at hk
  rw [if_neg (by decide), if_neg (by decide), if_neg (by decide), if_pos (by decide), if_neg (by decide)] at hk
  simp only [Bool.and_eq_true, decide_eq_true_eq] at hk
  obtain ⟨⟨⟨⟨⟨-, k1⟩, k2⟩, k3⟩, k4⟩, ⟨⟨⟨k5, k6⟩, k7⟩, k9, k10⟩, k8⟩ := hk
  exact ⟨⟨k1, k2, k3, k4⟩, k5, atW_mem k6, atW_mem k7, k8, atW_mem k9, k10⟩
theorem mres7 {c : Nat} (h : mRes c i = some (y, 7, n)) : Cond.methodLink (ow c) i objectInit ∈ GW ∧ Cond.instanceMethod objectInit ∈ GW ∧ Cond.code objectInit ⟨#[0xb1]⟩ 1 none ∈ GW := by
  obtain ⟨ps, hk⟩ := mRes_ok h
  unfold okM at hk
  dsimp only at hk
  rw [if_neg (by decide), if_neg (by decide), if_pos (by decide)] at hk
  simp only [Bool.and_eq_true, decide_eq_true_eq] at hk
  exact ⟨atW_mem hk.1.1, atW_mem hk.1.2, atW_mem hk.2⟩
theorem mres8 {c : Nat} (h : mRes c i = some (y, 8, n)) : Cond.methodLink (ow c) i arraycopyName ∈ GW ∧ Cond.native arraycopyName ∈ GW ∧ Cond.static arraycopyName ∈ GW ∧ Cond.initialized "java/lang/System" ∈ GW := by
  obtain ⟨ps, hk⟩ := mRes_ok h
  unfold okM at hk
  dsimp only at hk
  rw [if_pos (by decide)] at hk
  simp only [Bool.and_eq_true, decide_eq_true_eq] at hk
  exact ⟨atW_mem hk.1.1.1, atW_mem hk.1.1.2, atW_mem hk.1.2, atW_mem hk.2⟩
theorem mres9 {c : Nat} (h : mRes c i = some (y, 9, n)) : Cond.methodLink (ow c) i Lib.Math.min.name ∈ GW ∧ Cond.static Lib.Math.min.name ∈ GW ∧ Cond.initialized "java/lang/Math" ∈ GW ∧ Cond.code Lib.Math.min.name Lib.Math.min.code 2 (some .int) ∈ GW := by
  obtain ⟨ps, hk⟩ := mRes_ok h
  unfold okM at hk
  dsimp only at hk
  rw [if_neg (by decide), if_pos (by decide)] at hk
  simp only [Bool.and_eq_true, decide_eq_true_eq] at hk
  exact ⟨atW_mem hk.1.1.1, atW_mem hk.1.1.2, atW_mem hk.1.2, atW_mem hk.2⟩
/-- behind a call that returns -/
theorem r_cont {p : Program} {e : Env} {R : Room} {s : State} {mid : MethodId} {args : Array Value} {below : List Frame} {meth : Method} {c : Code} {H : Heap} {locs : List Loc} {cells slots mc ms : Nat} {ls : Array Slot} {st0 rest0 : List Value} {Q : State → Prop} {A : Nat → Nat} {B : (Nat → Nat) → State → Prop} {A1 As : Nat → Prop} {a : Array Value} {v : Option Value} {k : Nat} (hv : vOK v)
    (hr : va_Run p l e R s mid args below meth c H locs cells slots mc ms (F0 mid pc ls st0) rest0 (QcC v k A B A1 a) A1) (hS : va_S As s.heap H locs) (hA : ∀ q, A1 q → As q)
    (kk : ∀ (u : Nat → Nat) (t : State) (H1 : Heap) (locs1 : List Loc), t.heap = H1 → (∀ i, i < k → u i = A i) → B u t → va_S As s.heap H1 locs1 → W p l e R s mid args below meth c H1 locs1 (cells + mc) (slots + ms) Q (F0 mid (pc + 3) ls (v.toList ++ rest0))) : W p l e R s mid args below meth c H locs cells slots Q (F0 mid pc ls st0) := by
  rcases hv with rfl | ⟨x, rfl⟩ | ⟨x, rfl⟩ | ⟨x, rfl⟩
  · exact va_callv (a := a) hr hS (fun q _ h => hA q h) hA (fun u t H1 locs1 h1 _ h2 h3 _ _ h6 => kk u t H1 locs1 h1 h2 h3 h6)
  · exact va_calli (a := a) hr hS (fun q _ h => hA q h) hA (fun r u t H1 locs1 h1 _ h2 h3 _ _ h6 => by rw [h2.1]; exact kk u t H1 locs1 h1 h2.2 h3 h6)
  · exact va_calll (a := a) hr hS (fun q _ h => hA q h) hA (fun r u t H1 locs1 h1 _ h2 h3 _ _ h6 => by rw [h2.1]; exact kk u t H1 locs1 h1 h2.2 h3 h6)
  · exact va_calld (a := a) hr hS (fun q _ h => hA q h) hA (fun r u t H1 locs1 h1 _ h2 h3 _ _ h6 => by rw [h2.1]; exact kk u t H1 locs1 h1 h2.2 h3 h6)
/-- a call that returns, by its run -/
theorem Sem.call {v : Option Value} {st0 : List Value} (hok : RunOK h (.inl (v, h'))) (hmo : hc h' ≤ hc (rH r) ∧ hs h' ≤ hs (rH r)) (hLs : WFl (hn h) Ls) (hrest : WFl (hn h) rest)
    (hrow : ∀ (D : va_G) (ca : Nat → ClassId) (b : Nat) (As : Nat → Prop) (p : Program) (e : Env) (R : Room) (s : State) (mid : MethodId) (args : Array Value) (below : List Frame) (meth : Method) (c : Code) (A : Nat → Nat) (H : Heap) (locs : List Loc) (cells slots : Nat) (ls : Array Slot),
      Cx l L xs m D ca b As p R s mid args meth c → ls.size = mM m → va_P D vwCl (wld ca A h) H → va_D As (wld ca A h) → va_S As s.heap H locs → cells + (hc h' - hc h) ≤ R.cells → slots + (hs h' - hs h) ≤ R.slots →
      ∃ a, va_Run p l e R s mid args below meth c H locs cells slots (hc h' - hc h) (hs h' - hs h) (F0 mid pc ls (st0.map (tv A b))) (rest.map (tv A b)) (QcC v (hn h) A (BC D ca h' (va_A (wld ca A h) H.size)) (va_A (wld ca A h) H.size) a) (va_A (wld ca A h) H.size))
    (K : Sem l L xs m (pc + 3) Ls (v.toList ++ rest) h' r) : Sem l L xs m pc Ls st0 h r := by
  obtain ⟨o1, o2, o3, o4, o5, -⟩ := hok
  have o2 : hn h ≤ hn h' := o2
  have o3 : hc h ≤ hc h' := o3
  have o4 : hs h ≤ hs h' := o4
  have hv : vOK v := o5 _ rfl
  intro D ca b As p e R s mid args below meth c Q c0 s0 n0 A0 hC hE A H locs cells slots ls h1 h2 h3 h4 h5 h6
  obtain ⟨hP, hD, hS, q4, q5⟩ := h3
  obtain ⟨hx, hb, hr, hml, hown, hts, hlk, hnm9, htab, hRf, hRl, hK9, hG, hZ, hA9, hlaw, hcl9, hst9⟩ := id hC
  have hfr := wld_free (D := D) hD hS hA9
  obtain ⟨m1, m2⟩ := hmo
  obtain ⟨a, hrun⟩ := hrow D ca b As p e R s mid args below meth c A H locs cells slots ls hC h6.1 hP hD hS (by omega) (by omega)
  refine r_cont hv hrun hS hfr (fun u t H1 locs1 ht hag hB hS1 => ?_)
  obtain ⟨b1, b2⟩ := hB
  rw [ht] at b1
  have K9 := K D ca b As p e R s mid args below meth c Q c0 s0 n0 A0 hC hE u H1 locs1 (cells + (hc h' - hc h)) (slots + (hs h' - hs h)) ls (Nat.le_trans h1 o2) (fun i hi => by rw [hag i (by omega)]; exact h2 i hi) ⟨b1, b2.weaken (fun _ _ _ q => hfr _ q), hS1, by omega, by omega⟩ h4 h5 (lv_mono h6 (fun x hx => lvO_ext hag hLs hx))
  have e9 : (v.toList ++ rest).map (tv u b) = v.toList ++ rest.map (tv A b) := by
    rw [List.map_append, tvl_ext hag hrest]
    congr 1
    rcases hv with rfl | ⟨x, rfl⟩ | ⟨x, rfl⟩ | ⟨x, rfl⟩ <;> rfl
  rw [e9] at K9
  exact K9
end
