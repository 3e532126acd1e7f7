/-! WHAT AN ABSTRACT STATE SAYS OF THE MACHINE -/
set_option maxRecDepth 100000 in
theorem cls_ok : ∀ k, k < 8 → vwCl[k]? = some (cR k, cT k, cN k) := by
  intro k hk
  rcases (show k = 0 ∨ k = 1 ∨ k = 2 ∨ k = 3 ∨ k = 4 ∨ k = 5 ∨ k = 6 ∨ k = 7 by omega) with rfl | rfl | rfl | rfl | rfl | rfl | rfl | rfl <;> rfl
theorem cls_ty : ∀ k, k < 8 → ∀ j, j < cN k → parseFieldDescriptor (cT k j).2.2.1 = some (cTy k j) := by
  intro k hk
  rcases (show k = 0 ∨ k = 1 ∨ k = 2 ∨ k = 3 ∨ k = 4 ∨ k = 5 ∨ k = 6 ∨ k = 7 by omega) with rfl | rfl | rfl | rfl | rfl | rfl | rfl | rfl
  · exact tyX0_ok
  · exact tyX1_ok
  · exact tyX2_ok
  · exact tyX3_ok
  · exact tyX4_ok
  · exact tyX5_ok
  · exact tyX6_ok
  · exact tyX0_ok
theorem cls_nm : ∀ k, k < 8 → ∀ a, a < cN k → ∀ b, b < cN k → a ≠ b → (cT k a).2.1 ≠ (cT k b).2.1 := by
  intro k hk
  rcases (show k = 0 ∨ k = 1 ∨ k = 2 ∨ k = 3 ∨ k = 4 ∨ k = 5 ∨ k = 6 ∨ k = 7 by omega) with rfl | rfl | rfl | rfl | rfl | rfl | rfl | rfl
  · exact nmX0
  · exact nmX1
  · exact nmX2
  · exact nmX3
  · exact nmX4
  · exact nmX5
  · exact nmX6
  · exact nmX0
/-- the good words of the tables -/
def GW : List Cond := lw_tbl.filter goodWord
def atW (i : Nat) (w : Cond) : Bool := decide (lw_tbl[i]? = some w) && goodWord w
theorem atW_mem {i : Nat} {w : Cond} (h : atW i w = true) : w ∈ GW := by
  unfold atW at h
  rw [Bool.and_eq_true, decide_eq_true_eq] at h
  exact List.mem_filter.mpr ⟨List.mem_of_getElem? h.1, h.2⟩
theorem GW_good {w : Cond} (h : w ∈ GW) : goodWord w = true := (List.mem_filter.mp h).2
theorem GW_self {ws : List Cond} (h : ∀ w ∈ ws, w ∈ GW) : GoodIn GW ws := fun w hw => ⟨h w hw, good_of_word (GW_good (h w hw))⟩
set_option maxRecDepth 100000 in
theorem cls_in : ∀ k, k < 8 → ∀ w ∈ u_ws (cR k) (cT k) (cN k), w ∈ GW := by
  intro k hk w hw
  have h : ∀ k, k < 8 → ((u_ws (cR k) (cT k) (cN k)).all (fun w => decide (w ∈ lw_tbl) && goodWord w)) = true := by decide +kernel
  have h2 := List.all_eq_true.mp (h k hk) w hw
  rw [Bool.and_eq_true, decide_eq_true_eq] at h2
  exact List.mem_filter.mpr h2
def okF (q : Nat × Nat × Nat × Nat × Nat) : Bool := decide (q.2.2.1 < 8) && decide (q.2.2.2.1 < cN q.2.2.1) && atW q.2.2.2.2 (.fieldLink (ow q.1) q.2.1 (cT q.2.2.1 q.2.2.2.1).1 (cT q.2.2.1 q.2.2.2.1).2.1 (cT q.2.2.1 q.2.2.2.1).2.2.1)
set_option maxRecDepth 100000 in
theorem fRT_ok : fRT.all okF = true := by decide +kernel
theorem fRes_ok {c i k f : Nat} (h : fRes c i = some (k, f)) : k < 8 ∧ f < cN k ∧ Cond.fieldLink (ow c) i (cT k f).1 (cT k f).2.1 (cT k f).2.2.1 ∈ GW := by
  unfold fRes at h
  obtain ⟨q, hq, he⟩ := Option.map_eq_some_iff.mp h
  have hm := List.mem_of_find?_eq_some hq
  have hp := List.find?_some hq
  rw [Bool.and_eq_true, beq_iff_eq, beq_iff_eq] at hp
  have ho := List.all_eq_true.mp fRT_ok q hm
  unfold okF at ho
  rw [Bool.and_eq_true, Bool.and_eq_true, decide_eq_true_eq, decide_eq_true_eq] at ho
  cases he
  exact ⟨ho.1.1, ho.1.2, by rw [← hp.1, ← hp.2]; exact atW_mem ho.2⟩
def okM (q : Nat × Nat × MD × Nat × Nat × List Nat) : Bool :=
  let y := q.2.2.1
  let mode := q.2.2.2.1
  let ps := q.2.2.2.2.2
  let pa := fun i => ps.getD i 100000
  if mode = 8 then atW (pa 0) (.methodLink (ow q.1) q.2.1 arraycopyName) && atW (pa 1) (.native arraycopyName) && atW (pa 2) (.static arraycopyName) && atW (pa 3) (.initialized "java/lang/System")
  else if mode = 9 then atW (pa 0) (.methodLink (ow q.1) q.2.1 Lib.Math.min.name) && atW (pa 1) (.static Lib.Math.min.name) && atW (pa 2) (.initialized "java/lang/Math") && atW (pa 3) (.code Lib.Math.min.name Lib.Math.min.code 2 (some .int))
  else if mode = 7 then atW (pa 0) (.methodLink (ow q.1) q.2.1 objectInit) && atW (pa 1) (.instanceMethod objectInit) && atW (pa 2) (.code objectInit ⟨#[0xb1]⟩ 1 none)
  else decide (mode < 7) && decide (mM y ≤ 16 ∧ (mC y = 8 → q.1 = 8)) && decide ((mN y).cls = ow (mC y)) && plainName (mN y).cls && decide ((mN y).cls ≠ "java/lang/invoke/MethodHandle" ∧ (mN y).cls ≠ "java/lang/invoke/VarHandle" ∧ (parseMethodDescriptor (mN y).desc).map (fun d => d.parameters.length) = some q.2.2.2.2.1) &&
    (if mode = 3 ∨ mode = 4 then decide ((ow q.1, q.2.1, mN y) ∈ nestL) && atW (pa 0) (.initialized (mN y).cls) && atW (pa 1) (.code (mN y) (mB y) (mM y) (mR y)) && (if mode = 3 then atW (pa 2) (.static (mN y)) else atW (pa 2) (.instanceMethod (mN y)) && decide ((mN y).name = "<init>" ∧ mR y = none)) && decide (mH y = [])
    else atW (pa 0) (.methodLink (ow q.1) q.2.1 (mN y)) && atW (pa 1) (.initialized (mN y).cls) &&
      (if mode = 6 then atW (pa 2) (.codeWith (mN y) (mB y) (mM y) (mR y) (mH y)) else atW (pa 2) (.code (mN y) (mB y) (mM y) (mR y)) && decide (mH y = [])) &&
      (if mode = 0 ∨ mode = 6 then atW (pa 3) (.static (mN y)) else atW (pa 3) (.instanceMethod (mN y)) && (if mode = 2 then decide ((mN y).name = "<init>" ∧ mR y = none) else atW (pa 4) (.selects (mN y).cls (mN y) (mN y)))))
set_option maxRecDepth 100000 in
theorem mR_0_ok : ∀ q ∈ mR_0, okM q = true := List.all_eq_true.mp (by decide +kernel)
set_option maxRecDepth 100000 in
theorem mR_1_ok : ∀ q ∈ mR_1, okM q = true := List.all_eq_true.mp (by decide +kernel)
set_option maxRecDepth 100000 in
theorem mR_2_ok : ∀ q ∈ mR_2, okM q = true := List.all_eq_true.mp (by decide +kernel)
set_option maxRecDepth 100000 in
theorem mR_3_ok : ∀ q ∈ mR_3, okM q = true := List.all_eq_true.mp (by decide +kernel)
