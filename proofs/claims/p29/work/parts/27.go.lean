/-! A SESSION TAKES PLACE -/
def noteR (r : Rw) (p : Nat) (w y se : Int32) : Rw := fun k => if k = 28 + 9 * p then w else if k = 29 + 9 * p then y else if k = 23 + 9 * p ∧ ¬ y = nI 0 then r (23 + 9 * p) + nI 1 else if k = 25 + 9 * p ∧ ¬ y = nI 0 then se else r k
def payR (r : Rw) (g p : Nat) : Rw := fun k => if 93 + 9 * g ≤ k ∧ k < 102 + 9 * g then gSt (fun f => r (93 + 9 * g + f)) (nI p) (r (21 + 9 * p)) (k - (93 + 9 * g)) else r k
def goS (s : LK) (n p : Nat) (r : Rw) : Rw := if s.1 p = -1 then noteR r p (s.1 p) (s.2.1 p) (nI n) else payR (noteR r p (s.1 p) (s.2.1 p) (nI n)) (s.1 p).toNatClampNeg p
def stepOK (r : Rw) (G : Nat) : Prop := ∀ g, g < G → ∃ k, k ≤ 5 ∧ r (96 + 9 * g) = nI k
def whoOK (s : LK) (G : Nat) : Prop := (∀ p, s.1 p = -1 ∨ ∃ g, g < G ∧ s.1 p = nI g) ∧ (∀ p, p < 8 → (s.2.2.2.testBit p = true ↔ ¬ s.2.1 p = nI 0)) ∧ s.2.2.2 < 256
theorem rsn_ne {W free : Nat → Bool} {G : Nat} : ¬ rsn W free G = nI 0 := by
  unfold rsn
  split
  · decide
  · split <;> decide
theorem who_place {s : LK} {G g p : Nat} {free : Nat → Bool} (w : whoOK s G) (hg : g < G) : whoOK (pu s.1 p (nI g), s.2.1, free, s.2.2.2) G := by
  refine ⟨fun q => ?_, w.2.1, w.2.2⟩
  show pu s.1 p (nI g) q = -1 ∨ ∃ k, k < G ∧ pu s.1 p (nI g) q = nI k
  unfold pu
  by_cases c : q = p
  · rw [if_pos c]; exact Or.inr ⟨g, hg, rfl⟩
  · rw [if_neg c]; exact w.1 q
theorem who_own {r : Rw} {W nd : Nat → Bool} {G : Nat} : ∀ {i : Nat}, i ≤ G → whoOK (ownL r W nd i) G
  | 0, _ => ⟨fun p => Or.inl rfl, fun p hp => by show Nat.testBit 0 p = true ↔ ¬ nI 0 = nI 0; simp, by show 0 < 256; omega⟩
  | i + 1, h => by
    have ih := who_own (r := r) (W := W) (nd := nd) (G := G) (i := i) (by omega)
    show whoOK (ownS r W nd i (ownL r W nd i)) G
    unfold ownS
    split
    · exact who_place ih (by omega)
    · exact ih
theorem who_turn {r : Rw} {W nd : Nat → Bool} {G n p : Nat} {t : Bool} {s : LK} (hp : p < 8) (w : whoOK s G) : whoOK (turnS r W nd G n t p s) G := by
  unfold turnS
  split
  · generalize hb : nearF s.2.2.1 (dsR r p) (reR r) (stR r) G = b
    cases b with
    | some g => exact who_place w (nearF_lt hb).1
    | none =>
      refine ⟨w.1, fun q hq => ?_, Nat.or_lt_two_pow (n := 8) w.2.2 (Nat.pow_lt_pow_right (by omega) (by omega))⟩
      show Nat.testBit (s.2.2.2 ||| 2 ^ p) q = true ↔ ¬ pu s.2.1 p _ q = nI 0
      rw [Nat.testBit_or, Nat.testBit_two_pow]
      unfold pu
      by_cases c : q = p
      · subst c
        simp [rsn_ne]
      · have c2 : ¬ p = q := fun z => c z.symm
        simp [c, c2]
        exact (by have := w.2.1 q hq; simpa using this)
  · exact w
theorem who_it {r : Rw} {W nd : Nat → Bool} {G n : Nat} {t : Bool} {s : LK} : ∀ {i : Nat}, i ≤ 8 → whoOK s G → whoOK (it (turnS r W nd G n t) s i) G
  | 0, _, w => w
  | i + 1, h, w => who_turn (by omega) (who_it (by omega) w)
theorem who_look {r : Rw} {W nd : Nat → Bool} {P G n : Nat} (hP : P ≤ 8) : whoOK (lookL r W nd P G n) G := who_it hP (who_it hP (who_own (Nat.le_refl G)))
theorem gSt3 {f : Rw} {p pl : Int32} (h : ∃ k, k ≤ 5 ∧ f 3 = nI k) : ∃ k, k ≤ 5 ∧ gSt f p pl 3 = nI k := by
  obtain ⟨k, hk, e⟩ := h
  simp only [gSt, e, Nat.reduceEqDiff, if_false, if_true]
  by_cases c : f 4 + nI 1 = nI 20
  · by_cases d : nI k = nI 5
    · exact ⟨5, by omega, by simp [c, d]⟩
    · have : ¬ k = 5 := fun q => d (by rw [q])
      exact ⟨k + 1, by omega, by simp [c, d, nI_add]⟩
  · exact ⟨k, hk, by simp [c]⟩
section
variable {L : Nat} {xs : Nat → Int32} {h h2 : AH} {a H P G n : Nat} {r : Rw}
theorem Rl_note {p : Nat} {w y se : Int32} (R : Rl h a r H P G n) (hp : p < P) (f : Fr (fun i => i = a + 5 + p) h h2) (e : ∀ k, k < 9 → hI h2 (32 + k) (a + 5 + p) = pNote (fun f => hI h (32 + f) (a + 5 + p)) w y se k) : Rl h2 a (noteR r p w y se) H P G n := by
  have hP8 := R.P8
  have hH6 := R.H6
  obtain ⟨a1, a2, a3, a4, a5, a6, a7, a8, a9, a10, a11, a12, a13⟩ := R
  have lo : ∀ k, k < 21 → noteR r p w y se k = r k := by
    intro k hk
    unfold noteR
    rw [if_neg (by omega), if_neg (by omega), if_neg (by omega), if_neg (by omega)]
  refine ⟨a1, a2, a3, a4, ?_, ?_, ?_, ?_, ?_, ?_, fun i hi => ?_, fun q hq k hk => ?_, fun g hg k hk => ?_⟩
  · rw [f.fi (by omega)]; exact a5
  · rw [f.fi (by omega)]; exact a6
  · rw [f.fi (by omega)]; exact a7
  · rw [f.fi (by omega)]; exact a8
  · rw [f.fi (by omega), lo _ (by omega)]; exact a9
  · rw [f.fi (by omega), lo _ (by omega)]; exact a10
  · rw [f.ar (by omega), f.ar (by omega), lo _ (by omega), lo _ (by omega)]; exact a11 i hi
  · by_cases c : q = p
    · subst c
      rw [e k hk]
      revert k
      have b := a12 q hq
      refine lt9 ?_ ?_ ?_ ?_ ?_ ?_ ?_ ?_ ?_ <;> simp only [pNote, noteR, sw, Nat.reduceEqDiff, if_false, if_true]
      · rw [if_neg (by omega), if_neg (by omega), if_neg (by omega), if_neg (by omega)]; exact b 0 (by omega)
      · rw [if_neg (by omega), if_neg (by omega), if_neg (by omega), if_neg (by omega)]; exact b 1 (by omega)
      · have b2 : hI h (32 + 2) (a + 5 + q) = r (23 + 9 * q) := (b 2 (by omega)).trans (congrArg r (by show 21 + 9 * q + 2 = _; omega))
        by_cases cy : y = nI 0
        · rw [if_pos cy, if_neg (by omega), if_neg (by omega), if_neg (fun z => z.2 cy), if_neg (fun z => z.2 cy)]; exact b 2 (by omega)
        · rw [if_neg cy, if_neg (by omega), if_neg (by omega), if_pos ⟨by omega, cy⟩, b2]
      · rw [if_neg (by omega), if_neg (by omega), if_neg (by omega), if_neg (by omega)]; exact b 3 (by omega)
      · by_cases cy : y = nI 0
        · rw [if_pos cy, if_neg (by omega), if_neg (by omega), if_neg (by omega), if_neg (fun z => z.2 cy)]; exact b 4 (by omega)
        · rw [if_neg cy, if_neg (by omega), if_neg (by omega), if_neg (by omega), if_pos ⟨by omega, cy⟩]
      · rw [if_neg (by omega), if_neg (by omega), if_neg (by omega), if_neg (by omega)]; exact b 5 (by omega)
      · rw [if_neg (by omega), if_neg (by omega), if_neg (by omega), if_neg (by omega)]; exact b 6 (by omega)
      · rw [if_pos (by omega)]
      · rw [if_neg (by omega), if_pos (by omega)]
    · rw [f.fi (by omega), a12 q hq k hk]
      have hs : sw k < 9 := by unfold sw; split <;> (try split) <;> omega
      unfold noteR
      rw [if_neg (by omega), if_neg (by omega), if_neg (by omega), if_neg (by omega)]
  · rw [f.fi (by omega), a13 g hg k hk]
    unfold noteR
    rw [if_neg (by omega), if_neg (by omega), if_neg (by omega), if_neg (by omega)]
theorem Rl_pay {g p : Nat} (R : Rl h a r H P G n) (hg : g < G) (hp : p < P) (f : Fr (fun i => i = a + 13 + g) h h2) (e : ∀ k, k < 9 → hI h2 k (a + 13 + g) = gSt (fun f => hI h f (a + 13 + g)) (nI p) (r (21 + 9 * p)) k) : Rl h2 a (payR r g p) H P G n := by
  have hP8 := R.P8
  have hH6 := R.H6
  have ge : (fun f => hI h f (a + 13 + g)) = fun f => hI h f (a + 13 + g) := rfl
  obtain ⟨a1, a2, a3, a4, a5, a6, a7, a8, a9, a10, a11, a12, a13⟩ := R
  have lo : ∀ k, k < 93 → payR r g p k = r k := by
    intro k hk
    unfold payR
    rw [if_neg (by omega)]
  refine ⟨a1, a2, a3, a4, ?_, ?_, ?_, ?_, ?_, ?_, fun i hi => ?_, fun q hq k hk => ?_, fun j hj k hk => ?_⟩
  · rw [f.fi (by omega)]; exact a5
  · rw [f.fi (by omega)]; exact a6
  · rw [f.fi (by omega)]; exact a7
  · rw [f.fi (by omega)]; exact a8
  · rw [f.fi (by omega), lo _ (by omega)]; exact a9
  · rw [f.fi (by omega), lo _ (by omega)]; exact a10
  · rw [f.ar (by omega), f.ar (by omega), lo _ (by omega), lo _ (by omega)]; exact a11 i hi
  · have hs : sw k < 9 := by unfold sw; split <;> (try split) <;> omega
    rw [f.fi (by omega), lo _ (by omega)]; exact a12 q hq k hk
  · by_cases c : j = g
    · subst c
      rw [e k hk]
      have eqv : ∀ k, k < 9 → hI h k (a + 13 + j) = r (93 + 9 * j + k) := a13 j hj
      have : payR r j p (93 + 9 * j + k) = gSt (fun f => r (93 + 9 * j + f)) (nI p) (r (21 + 9 * p)) k := by
        unfold payR
        rw [if_pos ⟨by omega, by omega⟩, show 93 + 9 * j + k - (93 + 9 * j) = k by omega]
      rw [this]
      revert k
      refine lt9 ?_ ?_ ?_ ?_ ?_ ?_ ?_ ?_ ?_ <;> intro _ <;> simp only [gSt, eqv, Nat.reduceEqDiff, Nat.reduceLT, if_false, if_true]
    · rw [f.fi (by omega), a13 j hj k hk]
      unfold payR
      rw [if_neg (by omega)]
end
