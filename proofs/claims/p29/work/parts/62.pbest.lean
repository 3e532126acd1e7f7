/-! the best replacements: words -/
def lkS (nd : Nat → Bool) (s : LK) (p : Nat) : Bool := nd p && decide (s.1 p = -1)
def dD (r : Rw) (g p : Nat) : Nat := min 99 (dsR r p g).toNatClampNeg
def okD (r : Rw) (g p : Nat) : Bool := !decide (r (94 + 9 * g) < dsR r p g)
def bestV (r : Rw) (s : LK) (nd : Nat → Bool) (P G : Nat) : Nat → Nat := VG (lkS nd s) s.2.2.1 (okD r) (dD r) P G
section
variable {r : Rw} {H P G n : Nat}
theorem dD_le {g p : Nat} : dD r g p ≤ 99 := Nat.min_le_left _ _
theorem VG_990 (hG : G ≤ 10) {lk9 free : Nat → Bool} {ok : Nat → Nat → Bool} {g : Nat} (hg : g ≤ G) (T : Nat) : VG lk9 free ok (dD r) P g T = 100000 ∨ VG lk9 free ok (dD r) P g T ≤ 990 := by
  rcases VG_bd (lk := lk9) (free := free) (ok := ok) (d := dD r) (P := P) (fun g p _ => dD_le) g T with z | z
  · exact Or.inl z
  · right; omega
end
