/-! THE BEST REPLACEMENTS ARE NO WORSE THAN THOSE OF A LOOK -/
/-- a replacement below g stands there -/
def repB (o s : LK) (g p : Nat) : Bool := decide (o.1 p = -1 ∧ ¬ s.1 p = -1 ∧ (s.1 p).toNatClampNeg < g)
theorem msk_zero {f : Nat → Bool} : ∀ {k : Nat}, (∀ i, i < k → f i = false) → msk f k = 0
  | 0, _ => rfl
  | k + 1, h => by
    rw [msk_nil (h k (by omega))]
    exact msk_zero (fun i hi => h i (by omega))
section
variable {r : Rw} {P G n k v : Nat} {W nd : Nat → Bool} {o s : LK}
theorem rep_V (hP : P ≤ 8) (hG : G ≤ 10) (x : LkI r W nd G o s) : ∀ g, g ≤ G → VG (lkS nd o) o.2.2.1 (okD r) (dD r) P g (msk (repB o s g) P) < 100000
  | 0, _ => by
    have e : msk (repB o s 0) P = 0 := msk_zero (fun i _ => by
      unfold repB
      rw [decide_eq_false]
      omega)
    rw [e, VG_0]
    omega
  | g + 1, hg => by
    have ih := rep_V hP hG x g (by omega)
    have bd := VG_bd (lk := lkS nd o) (free := o.2.2.1) (ok := okD r) (d := dD r) (P := P) (fun _ _ _ => dD_le) g (msk (repB o s g) P)
    obtain ⟨a1, a2, a3, a4, a5, a6⟩ := x
    by_cases c : ∃ p, p < P ∧ o.1 p = -1 ∧ s.1 p = nI g
    · obtain ⟨p, hp, c1, c2⟩ := c
      have ns : ¬ s.1 p = -1 := by rw [c2]; exact m1_ne (by omega)
      obtain ⟨q1, q2, q3, q4⟩ : nd p = true ∧ o.2.2.1 g = true ∧ okD r g p = true ∧ lkS nd o p = true := by
        rcases a5 p (by omega) with z | ⟨_, z1, j, z2, z3, z4, z5⟩
        · exact absurd (z.trans c1) ns
        · have : g = j := nI_inj (by omega) (by omega) (c2.symm.trans z3)
          subst this
          refine ⟨z1, z4, z5, ?_⟩
          unfold lkS
          rw [z1, c1]
          rfl
      have T1 : msk (repB o s (g + 1)) P < 1024 := msk_10 _ (by omega)
      have bit : (msk (repB o s (g + 1)) P).testBit p = true := by
        rw [msk_bit, decide_eq_true hp, Bool.true_and]
        unfold repB
        rw [decide_eq_true]
        refine ⟨c1, ns, ?_⟩
        rw [c2, idxN (by omega)]
        omega
      have e : del (msk (repB o s (g + 1)) P) p = msk (repB o s g) P := by
        refine mask_ext (k := 10) (Nat.lt_of_le_of_lt del_le T1) (msk_10 _ (by omega)) (fun j hj => ?_)
        rw [del_bit T1, msk_bit, msk_bit]
        by_cases ej : j = p
        · have e1 : repB o s g j = false := by
            unfold repB
            rw [decide_eq_false]
            rintro ⟨_, _, z⟩
            rw [ej, c2, idxN (by omega)] at z
            omega
          rw [e1]
          simp [ej]
        · by_cases hjP : j < P
          · have e2 : repB o s (g + 1) j = repB o s g j := by
              unfold repB
              have : (o.1 j = -1 ∧ ¬ s.1 j = -1 ∧ (s.1 j).toNatClampNeg < g + 1) ↔ (o.1 j = -1 ∧ ¬ s.1 j = -1 ∧ (s.1 j).toNatClampNeg < g) := by
                constructor
                · rintro ⟨z1, z2, z3⟩
                  refine ⟨z1, z2, ?_⟩
                  obtain ⟨_, i, b1, b2, _, _⟩ := a1 j (by omega) z2
                  rw [b2, idxN (by omega)] at z3 ⊢
                  by_cases ei : i = g
                  · subst ei
                    exact absurd (a2 j p (by omega) (by omega) z2 (b2.trans c2.symm)) ej
                  · omega
                · rintro ⟨z1, z2, z3⟩
                  exact ⟨z1, z2, by omega⟩
              simp only [this]
            rw [e2]
            simp [ej]
          · simp [hjP]
      have m := newV_is (lk := lkS nd o) (ok := okD r g) (d := dD r g) (P := P) (V := VG (lkS nd o) o.2.2.1 (okD r) (dD r) P g) (T := msk (repB o s (g + 1)) P)
      have up := m.2 _ (Or.inr ⟨p, hp, bit, q4, q3, rfl⟩)
      rw [e] at up
      rw [VG_succ, if_pos q2]
      have dl := dD_le (r := r) (g := g) (p := p)
      show newV _ _ _ _ _ P < 100000
      omega
    · have e : msk (repB o s (g + 1)) P = msk (repB o s g) P := msk_congr (fun j hj => by
        unfold repB
        have : (o.1 j = -1 ∧ ¬ s.1 j = -1 ∧ (s.1 j).toNatClampNeg < g + 1) ↔ (o.1 j = -1 ∧ ¬ s.1 j = -1 ∧ (s.1 j).toNatClampNeg < g) := by
          constructor
          · rintro ⟨z1, z2, z3⟩
            refine ⟨z1, z2, ?_⟩
            obtain ⟨_, i, b1, b2, _, _⟩ := a1 j (by omega) z2
            rw [b2, idxN (by omega)] at z3 ⊢
            by_cases ei : i = g
            · subst ei
              exact absurd ⟨j, hj, z1, b2⟩ c
            · omega
          · rintro ⟨z1, z2, z3⟩
            exact ⟨z1, z2, by omega⟩
        simp only [this])
      rw [e, VG_succ]
      split
      · have m := newV_is (lk := lkS nd o) (ok := okD r g) (d := dD r g) (P := P) (V := VG (lkS nd o) o.2.2.1 (okD r) (dD r) P g) (T := msk (repB o s g) P)
        have up := m.2 _ (Or.inl rfl)
        show newV _ _ _ _ _ P < 100000
        omega
      · exact ih
theorem best_le (hP : P ≤ 8) (hG : G ≤ 10) (hO : ownOK r P G) (b : BsC (lkS nd (ownL r W nd G)) P (bestV r (ownL r W nd G) nd P G) (2 ^ cnt (lkS nd (ownL r W nd G)) P) k v) : k ≤ cnt (lkS nd (ownL r W nd G)) P ∧ cnt (lkS nd (ownL r W nd G)) P - k ≤ popc (lookL r W nd P G n).2.2.2 ∧ v ≤ 99 * G := by
  have x := look_I (n := n) (W := W) (nd := nd) hP hG hO
  have y := fun p (hp : p < P) => look_cov (W := W) (nd := nd) (r := r) (n := n) hG hp
  have z := fun p => open_who (r := r) (W := W) (nd := nd) (P := P) (G := G) (n := n) (p := p) hP
  have lt := look_lt2 (r := r) (W := W) (nd := nd) (P := P) (G := G) (n := n)
  have e := msk_self lt
  have e2 : popc (lookL r W nd P G n).2.2.2 = cnt (lookL r W nd P G n).2.2.2.testBit P := by
    rw [← popc_cnt (by omega), e]
  rw [e2]
  unfold bestV at b
  generalize lookL r W nd P G n = s at *
  generalize ownL r W nd G = o at *
  have V := rep_V hP hG x G (Nat.le_refl G)
  obtain ⟨⟨c, c1, c2, c3, c4⟩, b2⟩ := b
  have cl := cnt_le (lk := lkS nd o) P
  have k9 : k ≤ cnt (lkS nd o) P := by rw [← c3]; exact popc_lt (by omega) c1
  have v9 : v ≤ 99 * G := by
    rw [← c4]
    rcases VG_bd (lk := lkS nd o) (free := o.2.2.1) (ok := okD r) (d := dD r) (P := P) (fun _ _ _ => dD_le) G (phi (lkS nd o) P c) with q | q
    · omega
    · exact q
  refine ⟨k9, ?_, v9⟩
  have hb : ∀ p, (msk (repB o s G) P).testBit p = true → p < P ∧ lkS nd o p = true := by
    intro p hp
    rw [msk_bit, Bool.and_eq_true, decide_eq_true_eq] at hp
    obtain ⟨h1, h2⟩ := hp
    have h2 : o.1 p = -1 ∧ ¬ s.1 p = -1 ∧ (s.1 p).toNatClampNeg < G := of_decide_eq_true h2
    refine ⟨h1, ?_⟩
    unfold lkS
    rw [(x.1 p (by omega) h2.2.1).1, h2.1]
    rfl
  obtain ⟨d, d1, d2⟩ := phi_surj hP (msk_10 _ (by omega)) hb
  have q := b2 d d1 (by rw [d2]; exact V)
  have pd := phi_pop hP d1
  rw [d2, popc_cnt (by omega)] at pd
  have tot : cnt (lkS nd o) P = cnt (repB o s G) P + cnt s.2.2.2.testBit P := cnt_add (fun p hp => by
    have z1 := z p
    have y1 := y p hp
    unfold repB lkS
    cases a : nd p with
    | false =>
      have b1 : s.2.2.2.testBit p = false := by
        cases b : s.2.2.2.testBit p with
        | false => rfl
        | true => rw [x.2.2.2.1 p b] at a; cases a
      have b2 : s.1 p = -1 := by
        by_cases b : s.1 p = -1
        · exact b
        · rw [(x.1 p (by omega) b).1] at a; cases a
      rw [b1, b2]
      simp [b2n]
    | true =>
      by_cases w : s.1 p = -1
      · have b1 : s.2.2.2.testBit p = true := by
          rcases y1 a with u | u
          · exact absurd w u
          · exact u
        have b3 : o.1 p = -1 := by
          rcases x.2.2.2.2.1 p (by omega) with u | u
          · rw [← u]; exact w
          · exact u.1
        rw [b1, w, b3]
        simp [b2n]
      · have b1 : s.2.2.2.testBit p = false := by
          cases b : s.2.2.2.testBit p with
          | false => rfl
          | true => exact absurd (z1 b) w
        obtain ⟨_, j, j1, j2, _, _⟩ := x.1 p (by omega) w
        have j3 : (s.1 p).toNatClampNeg < G := by rw [j2, idxN (by omega)]; exact j1
        rw [b1]
        by_cases u : o.1 p = -1
        · simp [u, w, j3, b2n]
        · simp [u, b2n])
  omega
end
