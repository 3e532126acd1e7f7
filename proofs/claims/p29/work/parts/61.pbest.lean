/-! PURE: the best replacements -/
def cnt (lk : Nat → Bool) : Nat → Nat := it (fun p a => a + b2n (lk p)) 0
def posF (lk : Nat → Bool) : Nat → Nat → Nat
  | 0, _ => 0
  | k + 1, i => if lk k = true ∧ cnt lk k = i then k else posF lk k i
def phi (lk : Nat → Bool) (P c : Nat) : Nat := msk (fun p => lk p && c.testBit (cnt lk p)) P
def del (T p : Nat) : Nat := T &&& (1023 ^^^ 2 ^ p)
def newV (lk ok : Nat → Bool) (d : Nat → Nat) (V : Nat → Nat) (T : Nat) : Nat → Nat := it (fun p a => if T.testBit p = true ∧ lk p = true ∧ ok p = true then min a (V (del T p) + d p) else a) (V T)
def IsM (c : Nat → Prop) (a : Nat) : Prop := c a ∧ ∀ b, c b → a ≤ b
def Cd (lk ok : Nat → Bool) (d : Nat → Nat) (P : Nat) (V : Nat → Nat) (T b : Nat) : Prop := b = V T ∨ ∃ p, p < P ∧ T.testBit p = true ∧ lk p = true ∧ ok p = true ∧ b = V (del T p) + d p
def V0 : Nat → Nat := fun T => if T = 0 then 0 else 100000
def VG (lk free : Nat → Bool) (ok : Nat → Nat → Bool) (d : Nat → Nat → Nat) (P : Nat) : Nat → Nat → Nat := it (fun g V => if free g = true then fun T => newV lk (ok g) (d g) V T P else V) V0
section
variable {lk ok free : Nat → Bool} {d : Nat → Nat} {V : Nat → Nat} {P T k p q i c : Nat}
theorem cnt_succ : cnt lk (k + 1) = cnt lk k + b2n (lk k) := rfl
theorem cnt_le : ∀ k, cnt lk k ≤ k
  | 0 => Nat.le_refl _
  | k + 1 => by
    have := cnt_le k
    have : b2n (lk k) < 2 := b2n_lt
    rw [cnt_succ]
    omega
theorem cnt_mono {j : Nat} : cnt lk k ≤ cnt lk (k + j) := by
  induction j with
  | zero => exact Nat.le_refl _
  | succ j ih => exact Nat.le_trans ih (Nat.le_add_right _ _)
theorem cnt_lt (hp : p < k) (l : lk p = true) : cnt lk p < cnt lk k := by
  have e : cnt lk (p + 1) = cnt lk p + 1 := by rw [cnt_succ, l]; rfl
  have := cnt_mono (lk := lk) (k := p + 1) (j := k - (p + 1))
  rw [show p + 1 + (k - (p + 1)) = k by omega] at this
  omega
theorem cnt_inj (l : lk p = true) (l2 : lk q = true) (e : cnt lk p = cnt lk q) : p = q := by
  rcases Nat.lt_trichotomy p q with z | z | z
  · have := cnt_lt z l; omega
  · exact z
  · have := cnt_lt z l2; omega
theorem posF_ok : ∀ {k : Nat}, i < cnt lk k → posF lk k i < k ∧ lk (posF lk k i) = true ∧ cnt lk (posF lk k i) = i
  | 0, h => absurd h (Nat.not_lt_zero _)
  | k + 1, h => by
    show (if lk k = true ∧ cnt lk k = i then k else posF lk k i) < k + 1 ∧ lk (if lk k = true ∧ cnt lk k = i then k else posF lk k i) = true ∧ cnt lk (if lk k = true ∧ cnt lk k = i then k else posF lk k i) = i
    by_cases c : lk k = true ∧ cnt lk k = i
    · rw [if_pos c]
      exact ⟨by omega, c.1, c.2⟩
    · rw [if_neg c]
      have : i < cnt lk k := by
        rw [cnt_succ] at h
        cases l : lk k with
        | false => rw [l] at h; exact h
        | true =>
          rw [l] at h
          have h : i < cnt lk k + 1 := h
          have : ¬ cnt lk k = i := fun z => c ⟨l, z⟩
          omega
      have ih := posF_ok this
      exact ⟨by omega, ih.2⟩
theorem posF_at (hp : p < k) (l : lk p = true) : posF lk k (cnt lk p) = p := by
  have h := posF_ok (i := cnt lk p) (cnt_lt hp l)
  exact cnt_inj h.2.1 l h.2.2
theorem phi_bit : (phi lk P c).testBit p = (decide (p < P) && (lk p && c.testBit (cnt lk p))) := msk_bit _ P p
theorem phi_lt (hP : P ≤ 8) : phi lk P c < 256 := msk_8 _ hP
theorem phi_pop0 {g : Nat → Bool} : ∀ {k : Nat}, k ≤ 8 → popc (msk (fun p => lk p && g (cnt lk p)) k) = popc (msk g (cnt lk k))
  | 0, _ => rfl
  | k + 1, hk => by
    have ih := phi_pop0 (g := g) (k := k) (by omega)
    have cl := cnt_le (lk := lk) k
    rw [popc_msk10 (by omega), ih, cnt_succ]
    cases l : lk k with
    | false => rw [Bool.false_and]; rfl
    | true =>
      rw [Bool.true_and]
      show _ = popc (msk g (cnt lk k + 1))
      rw [popc_msk10 (by omega)]
theorem msk_self {j : Nat} (hc : c < 2 ^ j) : msk c.testBit j = c := by
  refine mask_ext (k := j) (msk_lt _ _) hc (fun i hi => ?_)
  rw [msk_bit, decide_eq_true hi, Bool.true_and]
theorem phi_pop (hP : P ≤ 8) (hc : c < 2 ^ cnt lk P) : popc (phi lk P c) = popc c := by
  have e := phi_pop0 (lk := lk) (g := c.testBit) hP
  rw [msk_self hc] at e
  exact e
theorem t1023 {j : Nat} (hj : j < 10) : Nat.testBit 1023 j = true := by
  have : ∀ i : Fin 10, Nat.testBit 1023 i = true := by decide
  exact this ⟨j, hj⟩
theorem del_bit {j : Nat} (hT : T < 1024) : (del T p).testBit j = (T.testBit j && !decide (j = p)) := by
  unfold del
  rw [Nat.testBit_and, Nat.testBit_xor, Nat.testBit_two_pow]
  by_cases hj : j < 10
  · rw [t1023 hj]
    by_cases e : j = p
    · subst e; simp
    · have e2 : ¬ p = j := fun z => e z.symm
      simp [e, e2]
  · have e : T.testBit j = false := Nat.testBit_lt_two_pow (Nat.lt_of_lt_of_le hT (Nat.pow_le_pow_right (n := 2) (by omega) (show 10 ≤ j by omega)))
    rw [e, Bool.false_and, Bool.false_and]
theorem del_le : del T p ≤ T := Nat.and_le_left
theorem cnt_8 (hP : P ≤ 8) : 2 ^ cnt lk P ≤ 256 := Nat.pow_le_pow_right (n := 2) (by omega) (show cnt lk P ≤ 8 by have := cnt_le (lk := lk) P; omega)
theorem phi_del (hP : P ≤ 8) (hc : c < 1024) (hi : i < cnt lk P) : phi lk P (del c i) = del (phi lk P c) (posF lk P i) := by
  have hp := phi_lt (lk := lk) (c := c) hP
  refine mask_ext (k := 10) (Nat.lt_of_lt_of_le (phi_lt hP) (by omega)) (Nat.lt_of_le_of_lt del_le (by omega)) (fun j hj => ?_)
  rw [phi_bit, del_bit hc, del_bit (by omega), phi_bit]
  obtain ⟨a1, a2, a3⟩ := posF_ok hi
  cases l : lk j with
  | false => simp
  | true =>
    by_cases e : j = posF lk P i
    · have : cnt lk j = i := by rw [e]; exact a3
      simp [e, a3]
    · have : ¬ cnt lk j = i := fun z => e (cnt_inj l a2 (z.trans a3.symm))
      simp [e, this]
theorem phi_0 : phi lk P 0 = 0 := by
  apply Nat.eq_of_testBit_eq
  intro i
  rw [phi_bit]
  simp
theorem phi_surj (hP : P ≤ 8) (hT : T < 1024) (h : ∀ p, T.testBit p = true → p < P ∧ lk p = true) : ∃ c, c < 2 ^ cnt lk P ∧ phi lk P c = T := by
  refine ⟨msk (fun i => T.testBit (posF lk P i)) (cnt lk P), msk_lt _ _, ?_⟩
  apply Nat.eq_of_testBit_eq
  intro p
  rw [phi_bit, msk_bit]
  cases hb : T.testBit p with
  | true =>
    obtain ⟨h1, h2⟩ := h p hb
    rw [decide_eq_true h1, h2, decide_eq_true (cnt_lt h1 h2), posF_at h1 h2, hb]
    rfl
  | false =>
    by_cases h1 : p < P
    · cases h2 : lk p with
      | false => simp
      | true => rw [posF_at h1 h2, hb]; simp
    · simp [h1]
theorem IsM_one {c : Nat → Prop} {a b : Nat} (h : IsM c a) (h2 : IsM c b) : a = b := Nat.le_antisymm (h.2 b h2.1) (h2.2 a h.1)
theorem IsM_add {c c' : Nat → Prop} {a e : Nat} (h : IsM c a) (hc : ∀ b, c' b ↔ c b ∨ b = e) : IsM c' (min a e) := by
  refine ⟨?_, fun b hb => ?_⟩
  · rcases Nat.le_total a e with z | z
    · rw [Nat.min_eq_left z]; exact (hc a).mpr (Or.inl h.1)
    · rw [Nat.min_eq_right z]; exact (hc e).mpr (Or.inr rfl)
  · rcases (hc b).mp hb with z | z
    · exact Nat.le_trans (Nat.min_le_left a e) (h.2 b z)
    · rw [z]; exact Nat.min_le_right a e
theorem IsM_iff {c c' : Nat → Prop} {a : Nat} (h : IsM c a) (hc : ∀ b, c' b ↔ c b) : IsM c' a := ⟨(hc a).mpr h.1, fun b hb => h.2 b ((hc b).mp hb)⟩
theorem newV_is : IsM (Cd lk ok d P V T) (newV lk ok d V T P) := by
  induction P with
  | zero => exact ⟨Or.inl rfl, fun b hb => by
      rcases hb with z | ⟨p, hp, _⟩
      · exact Nat.le_of_eq z.symm
      · omega⟩
  | succ k ih =>
    show IsM _ (if T.testBit k = true ∧ lk k = true ∧ ok k = true then min (newV lk ok d V T k) (V (del T k) + d k) else newV lk ok d V T k)
    by_cases c : T.testBit k = true ∧ lk k = true ∧ ok k = true
    · rw [if_pos c]
      refine IsM_add ih (fun b => ?_)
      constructor
      · rintro (z | ⟨p, hp, z⟩)
        · exact Or.inl (Or.inl z)
        · by_cases e : p = k
          · subst e; exact Or.inr z.2.2.2
          · exact Or.inl (Or.inr ⟨p, by omega, z⟩)
      · rintro ((z | ⟨p, hp, z⟩) | z)
        · exact Or.inl z
        · exact Or.inr ⟨p, by omega, z⟩
        · exact Or.inr ⟨k, by omega, c.1, c.2.1, c.2.2, z⟩
    · rw [if_neg c]
      refine IsM_iff ih (fun b => ?_)
      constructor
      · rintro (z | ⟨p, hp, z⟩)
        · exact Or.inl z
        · by_cases e : p = k
          · subst e; exact absurd ⟨z.1, z.2.1, z.2.2.1⟩ c
          · exact Or.inr ⟨p, by omega, z⟩
      · rintro (z | ⟨p, hp, z⟩)
        · exact Or.inl z
        · exact Or.inr ⟨p, by omega, z⟩
end
section
variable {lk free : Nat → Bool} {ok : Nat → Nat → Bool} {d : Nat → Nat → Nat} {P T k p q i c g : Nat}
theorem VG_succ : VG lk free ok d P (g + 1) = if free g = true then fun T => newV lk (ok g) (d g) (VG lk free ok d P g) T P else VG lk free ok d P g := rfl
theorem VG_bd (hd : ∀ g p, p < P → d g p ≤ 99) : ∀ g T, VG lk free ok d P g T = 100000 ∨ VG lk free ok d P g T ≤ 99 * g
  | 0, T => by
    show (if T = 0 then 0 else 100000) = 100000 ∨ (if T = 0 then 0 else 100000) ≤ 0
    split
    · right; omega
    · left; rfl
  | g + 1, T => by
    have ih := VG_bd hd g
    rw [VG_succ]
    split
    · have m := newV_is (lk := lk) (ok := ok g) (d := d g) (P := P) (V := VG lk free ok d P g) (T := T)
      show newV lk (ok g) (d g) (VG lk free ok d P g) T P = 100000 ∨ newV lk (ok g) (d g) (VG lk free ok d P g) T P ≤ 99 * (g + 1)
      generalize newV lk (ok g) (d g) (VG lk free ok d P g) T P = a at m
      have up := m.2 _ (Or.inl rfl)
      rcases m.1 with z | ⟨p, hp, _, _, _, z⟩
      · rcases ih T with y | y
        · left; omega
        · right; omega
      · have := hd g p hp
        rcases ih T with y | y <;> rcases ih (del T p) with x | x <;> omega
    · rcases ih T with y | y
      · exact Or.inl y
      · right; omega
theorem VG_0 : ∀ g, VG lk free ok d P g 0 = 0
  | 0 => rfl
  | g + 1 => by
    rw [VG_succ]
    split
    · have m := newV_is (lk := lk) (ok := ok g) (d := d g) (P := P) (V := VG lk free ok d P g) (T := 0)
      have up := m.2 _ (Or.inl rfl)
      have := VG_0 g
      show newV lk (ok g) (d g) (VG lk free ok d P g) 0 P = 0
      omega
    · exact VG_0 g
theorem VG_fin : ∀ g T, T < 1024 → VG lk free ok d P g T < 100000 → ∀ p, T.testBit p = true → p < P ∧ lk p = true
  | 0, T, _, h, p, hp => by
    exfalso
    change (if T = 0 then 0 else 100000) < 100000 at h
    split at h
    · rename_i e
      rw [e] at hp
      simp at hp
    · omega
  | g + 1, T, hT, h, p, hp => by
    rw [VG_succ] at h
    split at h
    · have m := newV_is (lk := lk) (ok := ok g) (d := d g) (P := P) (V := VG lk free ok d P g) (T := T)
      change newV lk (ok g) (d g) (VG lk free ok d P g) T P < 100000 at h
      generalize newV lk (ok g) (d g) (VG lk free ok d P g) T P = a at m h
      rcases m.1 with z | ⟨j, hj, b1, b2, b3, z⟩
      · exact VG_fin g T hT (by omega) p hp
      · by_cases e : p = j
        · subst e; exact ⟨hj, b2⟩
        · refine VG_fin g (del T j) (Nat.lt_of_le_of_lt del_le hT) (by omega) p ?_
          rw [del_bit hT, hp]
          simp [e]
    · exact VG_fin g T hT h p hp
theorem best_eq {V : Nat → Nat} {k v b : Nat} (hP : P ≤ 8) (fin : ∀ T, T < 1024 → V T < 100000 → ∀ p, T.testBit p = true → p < P ∧ lk p = true)
    (h1 : ∃ c, c < 2 ^ cnt lk P ∧ V (phi lk P c) < 100000 ∧ popc c = k ∧ V (phi lk P c) = v) (h2 : ∀ c, c < 2 ^ cnt lk P → V (phi lk P c) < 100000 → popc c < k ∨ popc c = k ∧ v ≤ V (phi lk P c))
    (b1 : b < 256) (b2 : V b < 100000) (b3 : ∀ T, T < 256 → V T < 100000 → popc T < popc b ∨ popc T = popc b ∧ V b ≤ V T) : k = popc b ∧ v = V b := by
  obtain ⟨c, c1, c2, c3, c4⟩ := h1
  have x := b3 _ (phi_lt (lk := lk) (c := c) hP) c2
  rw [phi_pop hP c1] at x
  obtain ⟨e, e1, e2⟩ := phi_surj hP (show b < 1024 by omega) (fin b (by omega) b2)
  have y := h2 e e1 (by rw [e2]; exact b2)
  have z := phi_pop hP e1
  rw [e2] at y z
  omega
end
