set_option maxRecDepth 100000 in
theorem mR_8_ok : ∀ q ∈ mR_8, okM q = true := List.all_eq_true.mp (by decide +kernel)
set_option maxRecDepth 100000 in
theorem mR_9_ok : ∀ q ∈ mR_9, okM q = true := List.all_eq_true.mp (by decide +kernel)
set_option maxRecDepth 100000 in
theorem mR_10_ok : ∀ q ∈ mR_10, okM q = true := List.all_eq_true.mp (by decide +kernel)
theorem mRT_ok : ∀ q ∈ mRT, okM q = true := List.forall_mem_append.mpr ⟨mR_0_ok, List.forall_mem_append.mpr ⟨mR_1_ok, List.forall_mem_append.mpr ⟨mR_2_ok, List.forall_mem_append.mpr ⟨mR_3_ok, List.forall_mem_append.mpr ⟨mR_4_ok, List.forall_mem_append.mpr ⟨mR_5_ok, List.forall_mem_append.mpr ⟨mR_6_ok, List.forall_mem_append.mpr ⟨mR_7_ok, List.forall_mem_append.mpr ⟨mR_8_ok, List.forall_mem_append.mpr ⟨mR_9_ok, mR_10_ok⟩⟩⟩⟩⟩⟩⟩⟩⟩⟩
