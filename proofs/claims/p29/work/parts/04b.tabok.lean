set_option maxRecDepth 100000 in
theorem mR_4_ok : ∀ q ∈ mR_4, okM q = true := List.all_eq_true.mp (by decide +kernel)
set_option maxRecDepth 100000 in
theorem mR_5_ok : ∀ q ∈ mR_5, okM q = true := List.all_eq_true.mp (by decide +kernel)
set_option maxRecDepth 100000 in
theorem mR_6_ok : ∀ q ∈ mR_6, okM q = true := List.all_eq_true.mp (by decide +kernel)
set_option maxRecDepth 100000 in
theorem mR_7_ok : ∀ q ∈ mR_7, okM q = true := List.all_eq_true.mp (by decide +kernel)
