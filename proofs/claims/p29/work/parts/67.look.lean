/-! WHO STANDS: each at one post, well and where needed; what is needed is held or open -/
theorem nI_inj {a b : Nat} (ha : a < 2 ^ 31) (hb : b < 2 ^ 31) (e : nI a = nI b) : a = b := by
  rw [nI_eqN ha hb] at e
  exact e
theorem m1_ne {g : Nat} (hg : g < 1000) : ¬ nI g = -1 := by
  rw [nI_eqm (by omega)]
  exact id
/-- o: the look at the own posts alone -/
def LkI (r : Rw) (W nd : Nat → Bool) (G : Nat) (o s : LK) : Prop :=
  (∀ p, p < 8 → ¬ s.1 p = -1 → nd p = true ∧ ∃ g, g < G ∧ s.1 p = nI g ∧ W g = true ∧ s.2.2.1 g = false) ∧
  (∀ p q, p < 8 → q < 8 → ¬ s.1 p = -1 → s.1 p = s.1 q → p = q) ∧
  (∀ g, s.2.2.1 g = true → W g = true ∧ o.2.2.1 g = true) ∧
  (∀ p, s.2.2.2.testBit p = true → nd p = true) ∧
  (∀ p, p < 8 → s.1 p = o.1 p ∨ (o.1 p = -1 ∧ nd p = true ∧ ∃ g, g < G ∧ s.1 p = nI g ∧ o.2.2.1 g = true ∧ okD r g p = true)) ∧
  ∀ p, s.2.1 p = nI 0 ∨ nI 0 < s.2.1 p
section
variable {r : Rw} {P G n : Nat} {W nd : Nat → Bool} {o s : LK}
theorem nearF_re {free : Nat → Bool} {ds re st : Rw} : ∀ {i k : Nat}, nearF free ds re st i = some k → ¬ re k < ds k
  | 0, k, h => by cases h
  | i + 1, k, h => by
    rw [nearF_succ] at h
    split at h
    · rename_i c
      cases h
      exact c.2.1
    · exact nearF_re h
theorem own_I (hP : P ≤ 8) (hG : G ≤ 10) (hO : ownOK r P G) : ∀ i, i ≤ G →
    (∀ p, p < 8 → ¬ (ownL r W nd i).1 p = -1 → nd p = true ∧ ∃ g, g < G ∧ (ownL r W nd i).1 p = nI g ∧ W g = true ∧ (ownL r W nd i).2.2.1 g = false) ∧
    (∀ p q, p < 8 → q < 8 → ¬ (ownL r W nd i).1 p = -1 → (ownL r W nd i).1 p = (ownL r W nd i).1 q → p = q) ∧
    (∀ g, (ownL r W nd i).2.2.1 g = true → W g = true) ∧ (∀ g, i ≤ g → (ownL r W nd i).2.2.1 g = W g) ∧ ∀ p, (ownL r W nd i).2.1 p = nI 0 := by
  intro i
  induction i with
  | zero =>
    intro _
    exact ⟨fun p _ h => absurd rfl h, fun p q _ _ h => absurd rfl h, fun g h => h, fun g _ => rfl, fun p => rfl⟩
  | succ i ih =>
    intro hi
    obtain ⟨a1, a2, a3, a4, a5⟩ := ih (by omega)
    show (∀ p, p < 8 → ¬ (ownS r W nd i (ownL r W nd i)).1 p = -1 → nd p = true ∧ ∃ g, g < G ∧ (ownS r W nd i (ownL r W nd i)).1 p = nI g ∧ W g = true ∧ (ownS r W nd i (ownL r W nd i)).2.2.1 g = false) ∧ (∀ p q, p < 8 → q < 8 → ¬ (ownS r W nd i (ownL r W nd i)).1 p = -1 → (ownS r W nd i (ownL r W nd i)).1 p = (ownS r W nd i (ownL r W nd i)).1 q → p = q) ∧ (∀ g, (ownS r W nd i (ownL r W nd i)).2.2.1 g = true → W g = true) ∧ (∀ g, i + 1 ≤ g → (ownS r W nd i (ownL r W nd i)).2.2.1 g = W g) ∧ ∀ p, (ownS r W nd i (ownL r W nd i)).2.1 p = nI 0
    generalize ownL r W nd i = s at *
    unfold ownS
    by_cases c : ¬ r (95 + 9 * i) = -1 ∧ W i = true ∧ nd (r (95 + 9 * i)).toNatClampNeg = true
    · rw [if_pos c]
      obtain ⟨c1, c2, c3⟩ := c
      have fi : s.2.2.1 i = true := by rw [a4 i (Nat.le_refl i)]; exact c2
      generalize (r (95 + 9 * i)).toNatClampNeg = q at *
      have np : ∀ p, p < 8 → ¬ s.1 p = nI i := by
        intro p hp e
        obtain ⟨_, g, b1, b2, _, b4⟩ := a1 p hp (by rw [e]; exact m1_ne (by omega))
        have : i = g := nI_inj (by omega) (by omega) (e.symm.trans b2)
        subst this
        rw [fi] at b4
        cases b4
      refine ⟨fun p hp h => ?_, fun p p2 hp hp2 h e => ?_, fun g h => ?_, fun g hg => ?_, a5⟩
      · change ¬ pu s.1 q (nI i) p = -1 at h
        show _ ∧ ∃ g, g < G ∧ pu s.1 q (nI i) p = nI g ∧ W g = true ∧ pb s.2.2.1 i false g = false
        unfold pu at h ⊢
        by_cases e : p = q
        · rw [if_pos e]
          rw [e]
          exact ⟨c3, i, by omega, rfl, c2, if_pos rfl⟩
        · rw [if_neg e] at h ⊢
          obtain ⟨b0, g, b1, b2, b3, b4⟩ := a1 p hp h
          refine ⟨b0, g, b1, b2, b3, ?_⟩
          unfold pb
          split
          · rfl
          · exact b4
      · change ¬ pu s.1 q (nI i) p = -1 at h
        change pu s.1 q (nI i) p = pu s.1 q (nI i) p2 at e
        unfold pu at h e
        by_cases e1 : p = q
        · by_cases e2 : p2 = q
          · rw [e1, e2]
          · rw [if_pos e1, if_neg e2] at e
            exact absurd e.symm (np p2 hp2)
        · by_cases e2 : p2 = q
          · rw [if_neg e1, if_pos e2] at e
            exact absurd e (np p hp)
          · rw [if_neg e1] at h e
            rw [if_neg e2] at e
            exact a2 p p2 hp hp2 h e
      · change pb s.2.2.1 i false g = true at h
        unfold pb at h
        split at h
        · cases h
        · exact a3 g h
      · show pb s.2.2.1 i false g = W g
        unfold pb
        rw [if_neg (by omega)]
        exact a4 g (by omega)
    · rw [if_neg c]
      exact ⟨a1, a2, a3, fun g hg => a4 g (by omega), a5⟩
theorem own_LkI (hP : P ≤ 8) (hG : G ≤ 10) (hO : ownOK r P G) : LkI r W nd G (ownL r W nd G) (ownL r W nd G) := by
  obtain ⟨a1, a2, a3, _, a5⟩ := own_I (W := W) (nd := nd) hP hG hO G (Nat.le_refl G)
  refine ⟨a1, a2, fun g h => ⟨a3 g h, h⟩, fun p h => ?_, fun p _ => Or.inl rfl, fun p => Or.inl (a5 p)⟩
  rw [own_open] at h
  simp at h
theorem rsn_gt {free : Nat → Bool} : nI 0 < rsn W free G := by
  unfold rsn
  split
  · decide
  · split <;> decide
theorem turn_I {t : Bool} {p : Nat} (hG : G ≤ 10) (hp : p < 8) (x : LkI r W nd G o s) : LkI r W nd G o (turnS r W nd G n t p s) := by
  unfold turnS
  by_cases c : nd p = true ∧ s.1 p = -1 ∧ decide (nI n < r (26 + 9 * p)) = t
  · rw [if_pos c]
    obtain ⟨c1, c2, _⟩ := c
    obtain ⟨a1, a2, a3, a4, a5, a6⟩ := x
    have op : o.1 p = -1 := by
      rcases a5 p hp with z | ⟨z, _⟩
      · rw [← z]; exact c2
      · exact z
    cases hb : nearF s.2.2.1 (dsR r p) (reR r) (stR r) G with
    | none =>
      refine ⟨a1, a2, a3, fun q h => ?_, a5, fun q => ?_⟩
      · change (s.2.2.2 ||| 2 ^ p).testBit q = true at h
        rw [Nat.testBit_or, Nat.testBit_two_pow, Bool.or_eq_true] at h
        rcases h with h | h
        · exact a4 q h
        · have e : p = q := of_decide_eq_true h
          rw [← e]; exact c1
      · show pu s.2.1 p (rsn W s.2.2.1 G) q = nI 0 ∨ nI 0 < pu s.2.1 p (rsn W s.2.2.1 G) q
        unfold pu
        split
        · exact Or.inr rsn_gt
        · exact a6 q
    | some g =>
      obtain ⟨g1, g2⟩ := nearF_lt hb
      have g3 := nearF_re hb
      obtain ⟨g4, g5⟩ := a3 g g2
      have np : ∀ q, q < 8 → ¬ s.1 q = nI g := by
        intro q hq e
        obtain ⟨_, j, b1, b2, _, b4⟩ := a1 q hq (by rw [e]; exact m1_ne (by omega))
        have : g = j := nI_inj (by omega) (by omega) (e.symm.trans b2)
        subst this
        rw [g2] at b4
        cases b4
      refine ⟨fun q hq h => ?_, fun q q2 hq hq2 h e => ?_, fun j h => ?_, a4, fun q hq => ?_, a6⟩
      · change ¬ pu s.1 p (nI g) q = -1 at h
        show _ ∧ ∃ j, j < G ∧ pu s.1 p (nI g) q = nI j ∧ W j = true ∧ pb s.2.2.1 g false j = false
        unfold pu at h ⊢
        by_cases e : q = p
        · rw [if_pos e]
          rw [e]
          exact ⟨c1, g, g1, rfl, g4, if_pos rfl⟩
        · rw [if_neg e] at h ⊢
          obtain ⟨b0, j, b1, b2, b3, b4⟩ := a1 q hq h
          refine ⟨b0, j, b1, b2, b3, ?_⟩
          unfold pb
          split
          · rfl
          · exact b4
      · change ¬ pu s.1 p (nI g) q = -1 at h
        change pu s.1 p (nI g) q = pu s.1 p (nI g) q2 at e
        unfold pu at h e
        by_cases e1 : q = p
        · by_cases e2 : q2 = p
          · rw [e1, e2]
          · rw [if_pos e1, if_neg e2] at e
            exact absurd e.symm (np q2 hq2)
        · by_cases e2 : q2 = p
          · rw [if_neg e1, if_pos e2] at e
            exact absurd e (np q hq)
          · rw [if_neg e1] at h e
            rw [if_neg e2] at e
            exact a2 q q2 hq hq2 h e
      · change pb s.2.2.1 g false j = true at h
        unfold pb at h
        split at h
        · cases h
        · exact a3 j h
      · show pu s.1 p (nI g) q = o.1 q ∨ (o.1 q = -1 ∧ nd q = true ∧ ∃ j, j < G ∧ pu s.1 p (nI g) q = nI j ∧ o.2.2.1 j = true ∧ okD r j q = true)
        unfold pu
        by_cases e : q = p
        · rw [if_pos e, e]
          refine Or.inr ⟨op, c1, g, g1, rfl, g5, ?_⟩
          unfold okD
          have : ¬ r (94 + 9 * g) < dsR r p g := g3
          simp [this]
        · rw [if_neg e]
          exact a5 q hq
  · rw [if_neg c]
    exact x
theorem it_I {t : Bool} (hG : G ≤ 10) (x : LkI r W nd G o s) : ∀ {i : Nat}, i ≤ 8 → LkI r W nd G o (it (turnS r W nd G n t) s i)
  | 0, _ => x
  | i + 1, hi => turn_I hG (by omega) (it_I hG x (i := i) (by omega))
theorem look_I (hP : P ≤ 8) (hG : G ≤ 10) (hO : ownOK r P G) : LkI r W nd G (ownL r W nd G) (lookL r W nd P G n) :=
  it_I hG (it_I hG (own_LkI hP hG hO) hP) hP
/-- held or open -/
def Cov (s : LK) (p : Nat) : Prop := ¬ s.1 p = -1 ∨ s.2.2.2.testBit p = true
theorem turn_cov {t : Bool} {p q : Nat} (hG : G ≤ 10) (x : Cov s p) : Cov (turnS r W nd G n t q s) p := by
  unfold turnS
  split
  · cases hb : nearF s.2.2.1 (dsR r q) (reR r) (stR r) G with
    | none =>
      rcases x with x | x
      · exact Or.inl x
      · right
        show (s.2.2.2 ||| 2 ^ q).testBit p = true
        rw [Nat.testBit_or, x, Bool.true_or]
    | some g =>
      have g1 := (nearF_lt hb).1
      by_cases e : p = q
      · left
        show ¬ pu s.1 q (nI g) p = -1
        unfold pu
        rw [if_pos e]
        exact m1_ne (by omega)
      · rcases x with x | x
        · left
          show ¬ pu s.1 q (nI g) p = -1
          unfold pu
          rw [if_neg e]
          exact x
        · exact Or.inr x
  · exact x
theorem turn_at {p : Nat} {t : Bool} (hG : G ≤ 10) (h1 : nd p = true) (h2 : decide (nI n < r (26 + 9 * p)) = t) : Cov (turnS r W nd G n t p s) p := by
  by_cases c : s.1 p = -1
  · unfold turnS
    rw [if_pos ⟨h1, c, h2⟩]
    cases hb : nearF s.2.2.1 (dsR r p) (reR r) (stR r) G with
    | none =>
      right
      show (s.2.2.2 ||| 2 ^ p).testBit p = true
      rw [Nat.testBit_or, Nat.testBit_two_pow]
      simp
    | some g =>
      left
      show ¬ pu s.1 p (nI g) p = -1
      unfold pu
      rw [if_pos rfl]
      have := (nearF_lt hb).1
      exact m1_ne (by omega)
  · exact turn_cov hG (Or.inl c)
theorem it_cov {t : Bool} {p : Nat} (hG : G ≤ 10) (x : Cov s p) : ∀ i, Cov (it (turnS r W nd G n t) s i) p
  | 0 => x
  | i + 1 => turn_cov hG (it_cov hG x i)
theorem it_at {p : Nat} {t : Bool} (hG : G ≤ 10) (h1 : nd p = true) (h2 : decide (nI n < r (26 + 9 * p)) = t) : ∀ i, p < i → Cov (it (turnS r W nd G n t) s i) p
  | 0, h => absurd h (Nat.not_lt_zero _)
  | i + 1, h => by
    by_cases e : p = i
    · subst e
      exact turn_at hG h1 h2
    · exact turn_cov hG (it_at hG h1 h2 i (by omega))
theorem look_cov {p : Nat} (hG : G ≤ 10) (hp : p < P) (h : nd p = true) : Cov (lookL r W nd P G n) p := by
  cases d : decide (nI n < r (26 + 9 * p)) with
  | true => exact it_cov hG (it_at hG h d P hp) P
  | false => exact it_at hG h d P hp
theorem look_lt2 : (lookL r W nd P G n).2.2.2 < 2 ^ P := look_lt (look_lt (by rw [own_open]; exact Nat.two_pow_pos _) (Nat.le_refl P)) (Nat.le_refl P)
/-! counting -/
theorem popc_cnt {f : Nat → Bool} : ∀ {k : Nat}, k ≤ 10 → popc (msk f k) = cnt f k
  | 0, _ => by
    show popc (msk f 0) = 0
    simp [popc, msk, b2n]
  | k + 1, hk => by rw [popc_msk10 (by omega), popc_cnt (by omega), cnt_succ]
theorem cnt_add {f g h : Nat → Bool} : ∀ {k : Nat}, (∀ p, p < k → b2n (f p) = b2n (g p) + b2n (h p)) → cnt f k = cnt g k + cnt h k
  | 0, _ => rfl
  | k + 1, e => by
    rw [cnt_succ, cnt_succ, cnt_succ, cnt_add (k := k) (fun p hp => e p (by omega)), e k (by omega)]
    omega
theorem cnt_congr {f g : Nat → Bool} : ∀ {k : Nat}, (∀ p, p < k → f p = g p) → cnt f k = cnt g k
  | 0, _ => rfl
  | k + 1, e => by rw [cnt_succ, cnt_succ, cnt_congr (k := k) (fun p hp => e p (by omega)), e k (by omega)]
/-- somebody stands there -/
def stn (s : LK) (p : Nat) : Bool := !decide (s.1 p = -1)
theorem look_three (hP : P ≤ 8) (hG : G ≤ 10) (hO : ownOK r P G) {p : Nat} (hp : p < P) : b2n (nd p) = b2n ((lookL r W nd P G n).2.2.2.testBit p) + b2n (stn (lookL r W nd P G n) p) := by
  have x := look_I (n := n) (W := W) (nd := nd) hP hG hO
  have y := look_cov (W := W) (nd := nd) (r := r) (n := n) hG hp
  have z := open_who (r := r) (W := W) (nd := nd) (P := P) (G := G) (n := n) (p := p) hP
  generalize lookL r W nd P G n = s at *
  unfold stn
  cases a : nd p with
  | true =>
    rcases y a with q | q
    · have : s.2.2.2.testBit p = false := by
        cases b : s.2.2.2.testBit p with
        | false => rfl
        | true => exact absurd (z b) q
      rw [this]
      simp [q, b2n]
    · rw [q, z q]
      simp [b2n]
  | false =>
    have b1 : s.2.2.2.testBit p = false := by
      cases b : s.2.2.2.testBit p with
      | false => rfl
      | true => rw [x.2.2.2.1 p b] at a; cases a
    have b2 : s.1 p = -1 := by
      by_cases b : s.1 p = -1
      · exact b
      · rw [(x.1 p (by omega) b).1] at a; cases a
    rw [b1, b2]
    simp [b2n]
theorem look_cnt (hP : P ≤ 8) (hG : G ≤ 10) (hO : ownOK r P G) : popc (msk nd P) = popc (lookL r W nd P G n).2.2.2 + cnt (stn (lookL r W nd P G n)) P := by
  have e := msk_self (look_lt2 (r := r) (W := W) (nd := nd) (P := P) (G := G) (n := n))
  have e2 : popc (lookL r W nd P G n).2.2.2 = cnt (lookL r W nd P G n).2.2.2.testBit P := by
    rw [← popc_cnt (by omega), e]
  rw [e2, popc_cnt (by omega)]
  exact cnt_add (fun p hp => look_three hP hG hO hp)
end
