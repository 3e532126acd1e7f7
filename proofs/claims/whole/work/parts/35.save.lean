/-! THE CLASS AS A WHOLE, AND ITS SAVED STATES -/
abbrev SvT : Type := Rw × Nat × Nat × Nat × Nat
def RlS (h : AH) (a : Nat) (s : SvT) : Prop := Rl h a s.1 s.2.1 s.2.2.1 s.2.2.2.1 s.2.2.2.2
/-- the rows of saved states: four blocks in some order -/
def isVb (b : Nat) : Prop := b = 59 ∨ b = 82 ∨ b = 105 ∨ b = 128
def SvB (h : AH) (f : Nat → Nat) : Prop := (∀ i, i < 4 → hQ h 47 i = some (f i) ∧ isVb (f i)) ∧ ∀ i j, i < 4 → j < 4 → f i = f j → i = j
def CR (h : AH) (s : SvT) (m : Nat) (sv : Nat → SvT) (tx : Rw) (len : Nat) : Prop := LayF h ∧ (∀ a, isB a → LaySt h a) ∧ RlS h 1 s ∧ m ≤ 4 ∧ hI h 99 0 = nI m ∧ (∃ f, SvB h f ∧ ∀ i, i < m → RlS h (f i) (sv i)) ∧ hA h 55 = tx ∧ hI h 17 54 = nI len ∧ len ≤ 90
/-- what a method of the class leaves of the model's things -/
def FrC (h h' : AH) : Prop := hK h' = hK h ∧ hR h' = hR h ∧ hN h' = hN h ∧ hn h' = hn h ∧ hL h' = hL h ∧ (∀ i, i ≠ 47 → hQ h' i = hQ h i) ∧ (∀ F i, 151 ≤ i → hI h' F i = hI h F i) ∧ ∀ i j, 151 ≤ i → hA h' i j = hA h i j
def push (m : Nat) (sv : Nat → SvT) (s : SvT) : Nat → SvT := fun i => if m = 4 then (if i = 3 then s else sv (i + 1)) else if i = m then s else sv i
def pushN (m : Nat) : Nat := if m = 4 then 4 else m + 1
section
variable {L : Nat} {xs : Nat → Int32} {h h2 h3 : AH} {s : SvT} {m len : Nat} {sv : Nat → SvT} {tx : Rw}
theorem FrC.rf : FrC h h := ⟨Eq.refl _, Eq.refl _, Eq.refl _, Eq.refl _, Eq.refl _, fun _ _ => Eq.refl _, fun _ _ _ => Eq.refl _, fun _ _ _ => Eq.refl _⟩
theorem FrC.tr (f : FrC h h2) (g : FrC h2 h3) : FrC h h3 := by
  obtain ⟨a1, a2, a3, a4, a5, a6, a7, a8⟩ := f
  obtain ⟨b1, b2, b3, b4, b5, b6, b7, b8⟩ := g
  exact ⟨b1.trans a1, b2.trans a2, b3.trans a3, b4.trans a4, b5.trans a5, fun i hi => (b6 i hi).trans (a6 i hi), fun F i hi => (b7 F i hi).trans (a7 F i hi), fun i j hi => (b8 i j hi).trans (a8 i j hi)⟩
theorem Fr.c {S : Nat → Prop} (f : Fr S h h2) (hS : ∀ i, S i → i < 151) : FrC h h2 := by
  refine ⟨f.ki, f.re, f.le, f.2.2.2.2.1, f.2.2.2.2.2.2.2.1, fun i _ => by rw [f.qq], fun F i hi => f.fi (fun z => ?_), fun i j hi => f.ar (fun z => ?_)⟩
  · have := hS i z; omega
  · have := hS i z; omega
theorem isVb_B {b : Nat} (hb : isVb b) : isB b := by
  unfold isVb at hb
  unfold isB
  omega
/-- the class's relation stays where neither the state nor the saved ones nor the text are touched -/
theorem CR.fr {S : Nat → Prop} (c : CR h s m sv tx len) (f : Fr S h h2) (hS : ∀ i, S i → (24 ≤ i ∧ i < 47) ∨ (48 ≤ i ∧ i < 54) ∨ i = 56 ∨ i = 57 ∨ i = 58) : CR h2 s m sv tx len := by
  obtain ⟨c1, c2, c3, c4, c5, ⟨g, c6, c7⟩, c8, c9, c10⟩ := c
  refine ⟨f.y c1, fun a ha => f.st (c2 a ha), Rl.fr c3 f (fun i h1 h2 z => ?_), c4, ?_, ⟨g, ⟨fun i hi => ?_, c6.2⟩, fun i hi => ?_⟩, ?_, ?_, c10⟩
  · have := hS i z; omega
  · rw [f.fi (fun z => by have := hS 0 z; omega)]; exact c5
  · rw [f.qq]; exact c6.1 i hi
  · refine Rl.fr (c7 i hi) f (fun j h1 h2 z => ?_)
    have := hS j z
    have v := (c6.1 i (by omega)).2
    unfold isVb at v
    omega
  · rw [← c8]; funext j; exact f.ar (fun z => by have := hS 55 z; omega)
  · rw [f.fi (fun z => by have := hS 54 z; omega)]; exact c9
end
