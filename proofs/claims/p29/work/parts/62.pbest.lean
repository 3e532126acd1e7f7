/-! the best replacements: words -/
def dN (u v : Nat) : Nat := if u < v then v - u else u - v
theorem dst_N {u v : Nat} (hu : u < 1000) (hv : v < 1000) : dst (nI u) (nI v) = nI (dN u v) := by
  unfold dst dN
  by_cases c : u < v
  · rw [if_pos (by rw [nI_ltN (by omega) (by omega)]; exact c), if_pos c, nI_sub (by omega)]
  · rw [if_neg (by rw [nI_ltN (by omega) (by omega)]; exact c), if_neg c, nI_sub (by omega)]
theorem dN_le {u v : Nat} (hu : u ≤ 99) (hv : v ≤ 99) : dN u v ≤ 99 := by
  unfold dN
  split <;> omega
def lkS (nd : Nat → Bool) (s : LK) (p : Nat) : Bool := nd p && decide (s.1 p = -1)
def dD (r : Rw) (g p : Nat) : Nat := min 99 (dsR r p g).toNatClampNeg
def okD (r : Rw) (g p : Nat) : Bool := !decide (r (94 + 9 * g) < dsR r p g)
def bestV (r : Rw) (s : LK) (nd : Nat → Bool) (P G : Nat) : Nat → Nat := VG (lkS nd s) s.2.2.1 (okD r) (dD r) P G
section
variable {r : Rw} {H P G n : Nat}
variable {T q : Nat}
theorem del_lt (hT : T < 1024) (hb : T.testBit q = true) : del T q < T := by
  have h1 : del T q ≤ T := del_le
  have h2 : del T q ≠ T := by
    intro z
    have := del_bit (p := q) (j := q) hT
    rw [z, hb] at this
    simp at this
  omega
theorem dD_le {g p : Nat} : dD r g p ≤ 99 := Nat.min_le_left _ _
theorem VG_990 (hG : G ≤ 10) {lk9 free : Nat → Bool} {ok : Nat → Nat → Bool} {g : Nat} (hg : g ≤ G) (T : Nat) : VG lk9 free ok (dD r) P g T = 100000 ∨ VG lk9 free ok (dD r) P g T ≤ 990 := by
  rcases VG_bd (lk := lk9) (free := free) (ok := ok) (d := dD r) (P := P) (fun g p _ => dD_le) g T with z | z
  · exact Or.inl z
  · right; omega
end
