/-- a static method whose code is too long to be compared by evaluation -/
theorem okM_st {c i n a0 a1 a2 a3 : Nat} {y : MD} (h1 : mM y ≤ 16 ∧ (mC y = 8 → c = 8)) (h2 : (mN y).cls = ow (mC y)) (h3 : plainName (mN y).cls = true) (h4 : (mN y).cls ≠ "java/lang/invoke/MethodHandle" ∧ (mN y).cls ≠ "java/lang/invoke/VarHandle" ∧ (parseMethodDescriptor (mN y).desc).map (fun d => d.parameters.length) = some n) (w0 : atW a0 (.methodLink (ow c) i (mN y)) = true) (w1 : atW a1 (.initialized (mN y).cls) = true) (w2 : lw_tbl[a2]? = some (.code (mN y) (mB y) (mM y) (mR y))) (g2 : goodWord (.code (mN y) (mB y) (mM y) (mR y)) = true) (w4 : mH y = []) (w5 : atW a3 (.static (mN y)) = true) : okM (c, i, y, 0, n, [a0, a1, a2, a3]) = true := by
  have e2 : atW a2 (.code (mN y) (mB y) (mM y) (mR y)) = true := by
    unfold atW
    rw [w2, g2]
    simp
  unfold okM
  dsimp only
  rw [if_neg (by decide), if_neg (by decide), if_neg (by decide), if_neg (by decide), if_neg (by decide), if_pos (by decide)]
  simp only [Bool.and_eq_true, decide_eq_true_eq]
  exact ⟨⟨⟨⟨⟨by decide, h1⟩, h2⟩, h3⟩, h4⟩, ⟨⟨w0, w1⟩, e2, w4⟩, w5⟩
set_option maxRecDepth 100000 in
theorem mR_8_ok : ∀ q ∈ mR_8, okM q = true := List.all_eq_true.mp (by decide +kernel)
set_option maxRecDepth 100000 in
theorem mR_9_r0 : okM (8, 65, mdX6_sick, 5, 2, [733, 11, 736, 734, 735]) = true := by decide +kernel
set_option maxRecDepth 100000 in
theorem mR_9_r1 : okM (8, 68, mdX6_complain, 5, 1, [741, 11, 744, 742, 743]) = true := by decide +kernel
set_option maxRecDepth 100000 in
theorem mR_9_r2 : okM (8, 71, mdX6_pass, 5, 1, [450, 11, 453, 451, 452]) = true := by decide +kernel
set_option maxRecDepth 100000 in
theorem mR_9_r3 : okM (8, 74, mdX6_init, 2, 0, [30, 11, 32, 31]) = true := by decide +kernel
set_option maxRecDepth 100000 in
theorem mR_9_r4 : okM (8, 75, mdL_cell, 0, 2, [630, 10, 632, 631]) = true := by decide +kernel
set_option maxRecDepth 100000 in
theorem mR_9_r5 : okM (8, 79, mdX6_digest, 1, 0, [615, 11, 618, 616, 617]) = true := by decide +kernel
set_option maxRecDepth 100000 in
theorem mR_9_r6 : okM (8, 83, mdL_act, 0, 3, [710, 10, 712, 711]) = true := okM_st (by decide +kernel) (by decide +kernel) (by decide +kernel) (by decide +kernel) (by decide +kernel) (by decide +kernel) rfl rfl rfl (by decide +kernel)
set_option maxRecDepth 100000 in
theorem mR_9_r7 : okM (8, 87, mdX6_undo, 5, 0, [610, 11, 613, 611, 612]) = true := by decide +kernel
set_option maxRecDepth 100000 in
theorem mR_9_r8 : okM (8, 90, mdL_addsUp, 0, 1, [637, 10, 639, 638]) = true := okM_st (by decide +kernel) (by decide +kernel) (by decide +kernel) (by decide +kernel) (by decide +kernel) (by decide +kernel) rfl rfl rfl (by decide +kernel)
set_option maxRecDepth 100000 in
theorem mR_9_r9 : okM (8, 94, mdL_isLooked, 0, 3, [649, 10, 651, 650]) = true := okM_st (by decide +kernel) (by decide +kernel) (by decide +kernel) (by decide +kernel) (by decide +kernel) (by decide +kernel) rfl rfl rfl (by decide +kernel)
set_option maxRecDepth 100000 in
theorem mR_9_r10 : okM (8, 98, mdX6_missed, 5, 2, [586, 11, 589, 587, 588]) = true := by decide +kernel
set_option maxRecDepth 100000 in
theorem mR_9_r11 : okM (8, 101, mdX6_bestHome, 5, 1, [606, 11, 609, 607, 608]) = true := by decide +kernel
theorem mR_9_ok : ∀ q ∈ mR_9, okM q = true := List.forall_mem_cons.mpr ⟨mR_9_r0, List.forall_mem_cons.mpr ⟨mR_9_r1, List.forall_mem_cons.mpr ⟨mR_9_r2, List.forall_mem_cons.mpr ⟨mR_9_r3, List.forall_mem_cons.mpr ⟨mR_9_r4, List.forall_mem_cons.mpr ⟨mR_9_r5, List.forall_mem_cons.mpr ⟨mR_9_r6, List.forall_mem_cons.mpr ⟨mR_9_r7, List.forall_mem_cons.mpr ⟨mR_9_r8, List.forall_mem_cons.mpr ⟨mR_9_r9, List.forall_mem_cons.mpr ⟨mR_9_r10, List.forall_mem_cons.mpr ⟨mR_9_r11, fun _ h => absurd h List.not_mem_nil⟩⟩⟩⟩⟩⟩⟩⟩⟩⟩⟩⟩
set_option maxRecDepth 100000 in
theorem mR_10_r0 : okM (8, 104, mdL_isStepped, 0, 1, [702, 10, 704, 703]) = true := okM_st (by decide +kernel) (by decide +kernel) (by decide +kernel) (by decide +kernel) (by decide +kernel) (by decide +kernel) rfl rfl rfl (by decide +kernel)
set_option maxRecDepth 100000 in
theorem mR_10_r1 : okM (8, 107, mdX6_daysToOpen, 1, 0, [601, 11, 604, 602, 603]) = true := by decide +kernel
theorem mR_10_ok : ∀ q ∈ mR_10, okM q = true := List.forall_mem_cons.mpr ⟨mR_10_r0, List.forall_mem_cons.mpr ⟨mR_10_r1, fun _ h => absurd h List.not_mem_nil⟩⟩
theorem mRT_ok : ∀ q ∈ mRT, okM q = true := List.forall_mem_append.mpr ⟨mR_0_ok, List.forall_mem_append.mpr ⟨mR_1_ok, List.forall_mem_append.mpr ⟨mR_2_ok, List.forall_mem_append.mpr ⟨mR_3_ok, List.forall_mem_append.mpr ⟨mR_4_ok, List.forall_mem_append.mpr ⟨mR_5_ok, List.forall_mem_append.mpr ⟨mR_6_ok, List.forall_mem_append.mpr ⟨mR_7_ok, List.forall_mem_append.mpr ⟨mR_8_ok, List.forall_mem_append.mpr ⟨mR_9_ok, mR_10_ok⟩⟩⟩⟩⟩⟩⟩⟩⟩⟩
