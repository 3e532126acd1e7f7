/-! rows changed at one place -/
section
variable {r : Rw} {H P G n : Nat}
theorem own_pu {r : Rw} {P G k : Nat} {v : Int32} (hk : ∀ g, ¬ k = 95 + 9 * g) (hO : ownOK r P G) : ownOK (pu r k v) P G := by
  intro g hg
  have : pu r k v (95 + 9 * g) = r (95 + 9 * g) := if_neg (fun z => hk g z.symm)
  rw [this]
  exact hO g hg
end
