/-! A STATE OF THE CLASS AND A ROW OF THE MODEL -/
def sw (f : Nat) : Nat := if f = 5 then 6 else if f = 6 then 5 else f
def Rl (h : AH) (a : Nat) (r : Rw) (H P G n : Nat) : Prop := H ≤ 6 ∧ P ≤ 8 ∧ G ≤ 10 ∧ n < 20000 ∧ hI h 82 a = nI H ∧ hI h 84 a = nI P ∧ hI h 86 a = nI G ∧ hI h 87 a = nI n ∧ hI h 88 a = r 5 ∧ hI h 89 a = r 6 ∧ (∀ i, i < H → hA h (a + 1) i = r (9 + 2 * i) ∧ hA h (a + 2) i = r (10 + 2 * i)) ∧ (∀ p, p < P → ∀ f, f < 9 → hI h (32 + f) (a + 5 + p) = r (21 + 9 * p + sw f)) ∧ ∀ g, g < G → ∀ f, f < 9 → hI h f (a + 13 + g) = r (93 + 9 * g + f)
section
variable {h h2 : AH} {a p g f i H P G n : Nat} {r : Rw}
theorem Rl.H6 (R : Rl h a r H P G n) : H ≤ 6 := R.1
theorem Rl.P8 (R : Rl h a r H P G n) : P ≤ 8 := R.2.1
theorem Rl.G10 (R : Rl h a r H P G n) : G ≤ 10 := R.2.2.1
theorem Rl.nn (R : Rl h a r H P G n) : n < 20000 := R.2.2.2.1
theorem Rl.hH (R : Rl h a r H P G n) : hI h 82 a = nI H := R.2.2.2.2.1
theorem Rl.hP (R : Rl h a r H P G n) : hI h 84 a = nI P := R.2.2.2.2.2.1
theorem Rl.hG (R : Rl h a r H P G n) : hI h 86 a = nI G := R.2.2.2.2.2.2.1
theorem Rl.hn (R : Rl h a r H P G n) : hI h 87 a = nI n := R.2.2.2.2.2.2.2.1
theorem Rl.h5 (R : Rl h a r H P G n) : hI h 88 a = r 5 := R.2.2.2.2.2.2.2.2.1
theorem Rl.h6 (R : Rl h a r H P G n) : hI h 89 a = r 6 := R.2.2.2.2.2.2.2.2.2.1
theorem Rl.ho (R : Rl h a r H P G n) (hi : i < H) : hA h (a + 1) i = r (9 + 2 * i) := (R.2.2.2.2.2.2.2.2.2.2.1 i hi).1
theorem Rl.hl (R : Rl h a r H P G n) (hi : i < H) : hA h (a + 2) i = r (10 + 2 * i) := (R.2.2.2.2.2.2.2.2.2.2.1 i hi).2
theorem Rl.po (R : Rl h a r H P G n) (hp : p < P) (hf : f < 9) : hI h (32 + f) (a + 5 + p) = r (21 + 9 * p + sw f) := R.2.2.2.2.2.2.2.2.2.2.2.1 p hp f hf
theorem Rl.gu (R : Rl h a r H P G n) (hg : g < G) (hf : f < 9) : hI h f (a + 13 + g) = r (93 + 9 * g + f) := R.2.2.2.2.2.2.2.2.2.2.2.2 g hg f hf
theorem Rl.p0 (R : Rl h a r H P G n) (hp : p < P) : hI h 32 (a + 5 + p) = r (21 + 9 * p) := R.po hp (f := 0) (by omega)
theorem Rl.p1 (R : Rl h a r H P G n) (hp : p < P) : hI h 33 (a + 5 + p) = r (22 + 9 * p) := by have := R.po hp (f := 1) (by omega); rw [show 22 + 9 * p = 21 + 9 * p + sw 1 by show _ = 21 + 9 * p + 1; omega]; exact this
theorem Rl.p2 (R : Rl h a r H P G n) (hp : p < P) : hI h 34 (a + 5 + p) = r (23 + 9 * p) := by have := R.po hp (f := 2) (by omega); rw [show 23 + 9 * p = 21 + 9 * p + sw 2 by show _ = 21 + 9 * p + 2; omega]; exact this
theorem Rl.p3 (R : Rl h a r H P G n) (hp : p < P) : hI h 35 (a + 5 + p) = r (24 + 9 * p) := by have := R.po hp (f := 3) (by omega); rw [show 24 + 9 * p = 21 + 9 * p + sw 3 by show _ = 21 + 9 * p + 3; omega]; exact this
theorem Rl.p4 (R : Rl h a r H P G n) (hp : p < P) : hI h 36 (a + 5 + p) = r (25 + 9 * p) := by have := R.po hp (f := 4) (by omega); rw [show 25 + 9 * p = 21 + 9 * p + sw 4 by show _ = 21 + 9 * p + 4; omega]; exact this
theorem Rl.p5 (R : Rl h a r H P G n) (hp : p < P) : hI h 37 (a + 5 + p) = r (27 + 9 * p) := by have := R.po hp (f := 5) (by omega); rw [show 27 + 9 * p = 21 + 9 * p + sw 5 by show _ = 21 + 9 * p + 6; omega]; exact this
theorem Rl.p6 (R : Rl h a r H P G n) (hp : p < P) : hI h 38 (a + 5 + p) = r (26 + 9 * p) := by have := R.po hp (f := 6) (by omega); rw [show 26 + 9 * p = 21 + 9 * p + sw 6 by show _ = 21 + 9 * p + 5; omega]; exact this
theorem Rl.p7 (R : Rl h a r H P G n) (hp : p < P) : hI h 39 (a + 5 + p) = r (28 + 9 * p) := by have := R.po hp (f := 7) (by omega); rw [show 28 + 9 * p = 21 + 9 * p + sw 7 by show _ = 21 + 9 * p + 7; omega]; exact this
theorem Rl.p8 (R : Rl h a r H P G n) (hp : p < P) : hI h 40 (a + 5 + p) = r (29 + 9 * p) := by have := R.po hp (f := 8) (by omega); rw [show 29 + 9 * p = 21 + 9 * p + sw 8 by show _ = 21 + 9 * p + 8; omega]; exact this
theorem Rl.g0 (R : Rl h a r H P G n) (hg : g < G) : hI h 0 (a + 13 + g) = r (93 + 9 * g) := R.gu hg (f := 0) (by omega)
theorem Rl.g1 (R : Rl h a r H P G n) (hg : g < G) : hI h 1 (a + 13 + g) = r (94 + 9 * g) := by rw [show 94 + 9 * g = 93 + 9 * g + 1 by omega]; exact R.gu hg (by omega)
theorem Rl.g2 (R : Rl h a r H P G n) (hg : g < G) : hI h 2 (a + 13 + g) = r (95 + 9 * g) := by rw [show 95 + 9 * g = 93 + 9 * g + 2 by omega]; exact R.gu hg (by omega)
theorem Rl.g3 (R : Rl h a r H P G n) (hg : g < G) : hI h 3 (a + 13 + g) = r (96 + 9 * g) := by rw [show 96 + 9 * g = 93 + 9 * g + 3 by omega]; exact R.gu hg (by omega)
theorem Rl.g4 (R : Rl h a r H P G n) (hg : g < G) : hI h 4 (a + 13 + g) = r (97 + 9 * g) := by rw [show 97 + 9 * g = 93 + 9 * g + 4 by omega]; exact R.gu hg (by omega)
theorem Rl.g5 (R : Rl h a r H P G n) (hg : g < G) : hI h 5 (a + 13 + g) = r (98 + 9 * g) := by rw [show 98 + 9 * g = 93 + 9 * g + 5 by omega]; exact R.gu hg (by omega)
theorem Rl.g6 (R : Rl h a r H P G n) (hg : g < G) : hI h 6 (a + 13 + g) = r (99 + 9 * g) := by rw [show 99 + 9 * g = 93 + 9 * g + 6 by omega]; exact R.gu hg (by omega)
/-- a change elsewhere leaves the state -/
theorem Rl.fr {S : Nat → Prop} (R : Rl h a r H P G n) (f : Fr S h h2) (hS : ∀ i, a ≤ i → i < a + 23 → ¬ S i) : Rl h2 a r H P G n := by
  obtain ⟨a1, a2, a3, a4, a5, a6, a7, a8, a9, a10, a11, a12, a13⟩ := R
  have z : ¬ S a := hS a (by omega) (by omega)
  refine ⟨a1, a2, a3, a4, ?_, ?_, ?_, ?_, ?_, ?_, fun i hi => ?_, fun p hp k hk => ?_, fun g hg k hk => ?_⟩
  · rw [f.fi z]; exact a5
  · rw [f.fi z]; exact a6
  · rw [f.fi z]; exact a7
  · rw [f.fi z]; exact a8
  · rw [f.fi z]; exact a9
  · rw [f.fi z]; exact a10
  · rw [f.ar (hS (a + 1) (by omega) (by omega)), f.ar (hS (a + 2) (by omega) (by omega))]; exact a11 i hi
  · rw [f.fi (hS (a + 5 + p) (by omega) (by omega))]; exact a12 p hp k hk
  · rw [f.fi (hS (a + 13 + g) (by omega) (by omega))]; exact a13 g hg k hk
end
/-! the pure answers about a row -/
def wk (d : Int32) : Int32 := d - d / nI 7 * nI 7
/-- a school day, by the first i holidays -/
def sch (r : Rw) (d : Int32) : Nat → Bool
  | 0 => decide (wk d < nI 5)
  | i + 1 => sch r d i && !decide (r (9 + 2 * i) ≤ d ∧ d ≤ r (10 + 2 * i))
def nee (r : Rw) (H : Nat) (d s : Int32) (p : Nat) : Bool := lo1 (r (22 + 9 * p) >>> ((nI 2 * wk d + s) &&& nI 31)) && sch r d H
def wl (r : Rw) (d : Int32) (g : Nat) : Bool := !decide (d < r (99 + 9 * g))
def ownerF (r : Rw) (x : Int32) : Nat → Int32 := it (fun g o => if r (95 + 9 * g) = x then nI g else o) (-1)
def uniq (r : Rw) (G : Nat) : Prop := ∀ g k, g < G → k < G → ¬ r (95 + 9 * g) = -1 → r (95 + 9 * g) = r (95 + 9 * k) → g = k
def sumP (r : Rw) (c : Nat) : Nat → Int32 := it (fun p s => s + r (c + 9 * p)) (nI 0)
theorem sch_mono {r : Rw} {d : Int32} {i : Nat} : ∀ {k : Nat}, sch r d (i + k) = true → sch r d i = true
  | 0, h => h
  | k + 1, h => sch_mono (k := k) (by
      have : sch r d (i + k + 1) = true := h
      unfold sch at this
      exact (Bool.and_eq_true _ _ ▸ this : _ ∧ _).1)
theorem sch_not {r : Rw} {d : Int32} {i H : Nat} (hi : i < H) (h : sch r d (i + 1) = false) : sch r d H = false := by
  cases e : sch r d H with
  | false => rfl
  | true => rw [show H = i + 1 + (H - (i + 1)) by omega] at e; rw [sch_mono e] at h; exact h
theorem i32_nlt {x y : Int32} : ¬ x < y ↔ y ≤ x := Int32.not_lt
theorem i32_nle {x y : Int32} : ¬ x ≤ y ↔ y < x := Int32.not_le
theorem ownerF_none {r : Rw} {x : Int32} : ∀ {G : Nat}, (∀ g, g < G → ¬ r (95 + 9 * g) = x) → ownerF r x G = -1
  | 0, _ => rfl
  | G + 1, h => by
    show (if r (95 + 9 * G) = x then nI G else ownerF r x G) = -1
    rw [if_neg (h G (by omega))]
    exact ownerF_none (fun g hg => h g (by omega))
theorem ownerF_at {r : Rw} {x : Int32} {g : Nat} (hg : r (95 + 9 * g) = x) : ∀ {G : Nat}, g < G → (∀ k, k < G → r (95 + 9 * k) = x → k = g) → ownerF r x G = nI g
  | G + 1, hlt, hu => by
    show (if r (95 + 9 * G) = x then nI G else ownerF r x G) = nI g
    by_cases c : r (95 + 9 * G) = x
    · rw [if_pos c, hu G (by omega) c]
    · rw [if_neg c]
      have : ¬ g = G := fun q => c (q ▸ hg)
      exact ownerF_at hg (by omega) (fun k hk => hu k (by omega))
