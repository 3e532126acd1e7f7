/-! THE LAYOUT: which thing lies at which number -/
def LaySt (h : AH) (a : Nat) : Prop := hK h a = 5 ∧ hR h 80 a = some (a + 1) ∧ hR h 81 a = some (a + 2) ∧ hR h 83 a = some (a + 3) ∧ hR h 85 a = some (a + 4) ∧ hK h (a + 1) = 8 ∧ hN h (a + 1) = 6 ∧ hK h (a + 2) = 8 ∧ hN h (a + 2) = 6 ∧ hK h (a + 3) = 10 ∧ hN h (a + 3) = 8 ∧ hK h (a + 4) = 9 ∧ hN h (a + 4) = 10 ∧ (∀ p, p < 8 → hK h (a + 5 + p) = 2 ∧ hQ h (a + 3) p = some (a + 5 + p)) ∧ ∀ g, g < 10 → hK h (a + 13 + g) = 0 ∧ hQ h (a + 4) g = some (a + 13 + g)
section
variable {h h2 : AH} {a p g : Nat}
theorem LS_k (hl : LaySt h a) : hK h a = 5 := hl.1
theorem LS_r0 (hl : LaySt h a) : hR h 80 a = some (a + 1) := hl.2.1
theorem LS_r1 (hl : LaySt h a) : hR h 81 a = some (a + 2) := hl.2.2.1
theorem LS_r3 (hl : LaySt h a) : hR h 83 a = some (a + 3) := hl.2.2.2.1
theorem LS_r5 (hl : LaySt h a) : hR h 85 a = some (a + 4) := hl.2.2.2.2.1
theorem LS_k1 (hl : LaySt h a) : hK h (a + 1) = 8 := hl.2.2.2.2.2.1
theorem LS_n1 (hl : LaySt h a) : hN h (a + 1) = 6 := hl.2.2.2.2.2.2.1
theorem LS_k2 (hl : LaySt h a) : hK h (a + 2) = 8 := hl.2.2.2.2.2.2.2.1
theorem LS_n2 (hl : LaySt h a) : hN h (a + 2) = 6 := hl.2.2.2.2.2.2.2.2.1
theorem LS_k3 (hl : LaySt h a) : hK h (a + 3) = 10 := hl.2.2.2.2.2.2.2.2.2.1
theorem LS_n3 (hl : LaySt h a) : hN h (a + 3) = 8 := hl.2.2.2.2.2.2.2.2.2.2.1
theorem LS_k4 (hl : LaySt h a) : hK h (a + 4) = 9 := hl.2.2.2.2.2.2.2.2.2.2.2.1
theorem LS_n4 (hl : LaySt h a) : hN h (a + 4) = 10 := hl.2.2.2.2.2.2.2.2.2.2.2.2.1
theorem LS_po (hl : LaySt h a) (hp : p < 8) : hK h (a + 5 + p) = 2 := (hl.2.2.2.2.2.2.2.2.2.2.2.2.2.1 p hp).1
theorem LS_pq (hl : LaySt h a) (hp : p < 8) : hQ h (a + 3) p = some (a + 5 + p) := (hl.2.2.2.2.2.2.2.2.2.2.2.2.2.1 p hp).2
theorem LS_go (hl : LaySt h a) (hg : g < 10) : hK h (a + 13 + g) = 0 := (hl.2.2.2.2.2.2.2.2.2.2.2.2.2.2 g hg).1
theorem LS_gq (hl : LaySt h a) (hg : g < 10) : hQ h (a + 4) g = some (a + 13 + g) := (hl.2.2.2.2.2.2.2.2.2.2.2.2.2.2 g hg).2
theorem LaySt_to (hl : LaySt h a) (k : hK h2 = hK h) (r : hR h2 = hR h) (n : hN h2 = hN h) (q : ∀ i, i ≠ 47 → hQ h2 i = hQ h i) (h3 : a + 3 ≠ 47) (h4 : a + 4 ≠ 47) : LaySt h2 a := by
  unfold LaySt
  rw [k, r, n, q _ h3, q _ h4]
  exact hl
def isB (a : Nat) : Prop := a = 1 ∨ a = 24 ∨ a = 59 ∨ a = 82 ∨ a = 105 ∨ a = 128
def LayF (h : AH) : Prop := hK h 0 = 6 ∧ hK h 47 = 11 ∧ hK h 48 = 4 ∧ hK h 49 = 8 ∧ hK h 50 = 8 ∧ hK h 51 = 3 ∧ hK h 52 = 8 ∧ hK h 53 = 8 ∧ hK h 54 = 1 ∧ hK h 55 = 8 ∧ hK h 56 = 8 ∧ hK h 57 = 8 ∧ hK h 58 = 8 ∧ hK h 151 = 8 ∧ hN h 47 = 4 ∧ hN h 49 = 8 ∧ hN h 50 = 8 ∧ hN h 52 = 8 ∧ hN h 53 = 256 ∧ hN h 55 = 90 ∧ hN h 56 = 30 ∧ hN h 57 = 30 ∧ hN h 58 = 30 ∧ hN h 151 = 8 ∧ hR h 96 0 = some 1 ∧ hR h 97 0 = some 24 ∧ hR h 98 0 = some 47 ∧ hR h 100 0 = some 48 ∧ hR h 101 0 = some 51 ∧ hR h 102 0 = some 54 ∧ hR h 64 48 = some 49 ∧ hR h 65 48 = some 50 ∧ hR h 48 51 = some 52 ∧ hR h 50 51 = some 53 ∧ hR h 16 54 = some 55 ∧ hR h 18 54 = some 56 ∧ hR h 19 54 = some 57 ∧ hR h 20 54 = some 58
def Lay (h : AH) : Prop := LayF h ∧ (∀ a, isB a → LaySt h a) ∧ ∃ b0 b1 b2 b3 : Nat, hQ h 47 0 = some b0 ∧ hQ h 47 1 = some b1 ∧ hQ h 47 2 = some b2 ∧ hQ h 47 3 = some b3 ∧ [b0, b1, b2, b3].Perm [59, 82, 105, 128]
theorem Y_k0 (hy : LayF h) : hK h 0 = 6 := hy.1
theorem Y_k47 (hy : LayF h) : hK h 47 = 11 := hy.2.1
theorem Y_k48 (hy : LayF h) : hK h 48 = 4 := hy.2.2.1
theorem Y_k49 (hy : LayF h) : hK h 49 = 8 := hy.2.2.2.1
theorem Y_k50 (hy : LayF h) : hK h 50 = 8 := hy.2.2.2.2.1
theorem Y_k51 (hy : LayF h) : hK h 51 = 3 := hy.2.2.2.2.2.1
theorem Y_k52 (hy : LayF h) : hK h 52 = 8 := hy.2.2.2.2.2.2.1
theorem Y_k53 (hy : LayF h) : hK h 53 = 8 := hy.2.2.2.2.2.2.2.1
theorem Y_k54 (hy : LayF h) : hK h 54 = 1 := hy.2.2.2.2.2.2.2.2.1
theorem Y_k55 (hy : LayF h) : hK h 55 = 8 := hy.2.2.2.2.2.2.2.2.2.1
theorem Y_k56 (hy : LayF h) : hK h 56 = 8 := hy.2.2.2.2.2.2.2.2.2.2.1
theorem Y_k57 (hy : LayF h) : hK h 57 = 8 := hy.2.2.2.2.2.2.2.2.2.2.2.1
theorem Y_k58 (hy : LayF h) : hK h 58 = 8 := hy.2.2.2.2.2.2.2.2.2.2.2.2.1
theorem Y_k151 (hy : LayF h) : hK h 151 = 8 := hy.2.2.2.2.2.2.2.2.2.2.2.2.2.1
theorem Y_n47 (hy : LayF h) : hN h 47 = 4 := hy.2.2.2.2.2.2.2.2.2.2.2.2.2.2.1
theorem Y_n49 (hy : LayF h) : hN h 49 = 8 := hy.2.2.2.2.2.2.2.2.2.2.2.2.2.2.2.1
theorem Y_n50 (hy : LayF h) : hN h 50 = 8 := hy.2.2.2.2.2.2.2.2.2.2.2.2.2.2.2.2.1
theorem Y_n52 (hy : LayF h) : hN h 52 = 8 := hy.2.2.2.2.2.2.2.2.2.2.2.2.2.2.2.2.2.1
theorem Y_n53 (hy : LayF h) : hN h 53 = 256 := hy.2.2.2.2.2.2.2.2.2.2.2.2.2.2.2.2.2.2.1
theorem Y_n55 (hy : LayF h) : hN h 55 = 90 := hy.2.2.2.2.2.2.2.2.2.2.2.2.2.2.2.2.2.2.2.1
theorem Y_n56 (hy : LayF h) : hN h 56 = 30 := hy.2.2.2.2.2.2.2.2.2.2.2.2.2.2.2.2.2.2.2.2.1
theorem Y_n57 (hy : LayF h) : hN h 57 = 30 := hy.2.2.2.2.2.2.2.2.2.2.2.2.2.2.2.2.2.2.2.2.2.1
theorem Y_n58 (hy : LayF h) : hN h 58 = 30 := hy.2.2.2.2.2.2.2.2.2.2.2.2.2.2.2.2.2.2.2.2.2.2.1
theorem Y_n151 (hy : LayF h) : hN h 151 = 8 := hy.2.2.2.2.2.2.2.2.2.2.2.2.2.2.2.2.2.2.2.2.2.2.2.1
theorem Y_r96 (hy : LayF h) : hR h 96 0 = some 1 := hy.2.2.2.2.2.2.2.2.2.2.2.2.2.2.2.2.2.2.2.2.2.2.2.2.1
theorem Y_r97 (hy : LayF h) : hR h 97 0 = some 24 := hy.2.2.2.2.2.2.2.2.2.2.2.2.2.2.2.2.2.2.2.2.2.2.2.2.2.1
theorem Y_r98 (hy : LayF h) : hR h 98 0 = some 47 := hy.2.2.2.2.2.2.2.2.2.2.2.2.2.2.2.2.2.2.2.2.2.2.2.2.2.2.1
theorem Y_r100 (hy : LayF h) : hR h 100 0 = some 48 := hy.2.2.2.2.2.2.2.2.2.2.2.2.2.2.2.2.2.2.2.2.2.2.2.2.2.2.2.1
theorem Y_r101 (hy : LayF h) : hR h 101 0 = some 51 := hy.2.2.2.2.2.2.2.2.2.2.2.2.2.2.2.2.2.2.2.2.2.2.2.2.2.2.2.2.1
theorem Y_r102 (hy : LayF h) : hR h 102 0 = some 54 := hy.2.2.2.2.2.2.2.2.2.2.2.2.2.2.2.2.2.2.2.2.2.2.2.2.2.2.2.2.2.1
theorem Y_r64 (hy : LayF h) : hR h 64 48 = some 49 := hy.2.2.2.2.2.2.2.2.2.2.2.2.2.2.2.2.2.2.2.2.2.2.2.2.2.2.2.2.2.2.1
theorem Y_r65 (hy : LayF h) : hR h 65 48 = some 50 := hy.2.2.2.2.2.2.2.2.2.2.2.2.2.2.2.2.2.2.2.2.2.2.2.2.2.2.2.2.2.2.2.1
theorem Y_r48 (hy : LayF h) : hR h 48 51 = some 52 := hy.2.2.2.2.2.2.2.2.2.2.2.2.2.2.2.2.2.2.2.2.2.2.2.2.2.2.2.2.2.2.2.2.1
theorem Y_r50 (hy : LayF h) : hR h 50 51 = some 53 := hy.2.2.2.2.2.2.2.2.2.2.2.2.2.2.2.2.2.2.2.2.2.2.2.2.2.2.2.2.2.2.2.2.2.1
theorem Y_r16 (hy : LayF h) : hR h 16 54 = some 55 := hy.2.2.2.2.2.2.2.2.2.2.2.2.2.2.2.2.2.2.2.2.2.2.2.2.2.2.2.2.2.2.2.2.2.2.1
theorem Y_r18 (hy : LayF h) : hR h 18 54 = some 56 := hy.2.2.2.2.2.2.2.2.2.2.2.2.2.2.2.2.2.2.2.2.2.2.2.2.2.2.2.2.2.2.2.2.2.2.2.1
theorem Y_r19 (hy : LayF h) : hR h 19 54 = some 57 := hy.2.2.2.2.2.2.2.2.2.2.2.2.2.2.2.2.2.2.2.2.2.2.2.2.2.2.2.2.2.2.2.2.2.2.2.2.1
theorem Y_r20 (hy : LayF h) : hR h 20 54 = some 58 := hy.2.2.2.2.2.2.2.2.2.2.2.2.2.2.2.2.2.2.2.2.2.2.2.2.2.2.2.2.2.2.2.2.2.2.2.2.2
theorem LayF_to (hy : LayF h) (k : hK h2 = hK h) (r : hR h2 = hR h) (n : hN h2 = hN h) : LayF h2 := by
  unfold LayF
  rw [k, r, n]
  exact hy
theorem nz5 : ¬ nI 5 = 0 := by decide
theorem nz7 : ¬ nI 7 = 0 := by decide
theorem nz2 : ¬ nI 2 = 0 := by decide
/-- what stays: all but the things of S -/
def Fr (S : Nat → Prop) (h h' : AH) : Prop := hK h' = hK h ∧ hR h' = hR h ∧ hN h' = hN h ∧ hQ h' = hQ h ∧ hn h' = hn h ∧ hc h' = hc h ∧ hs h' = hs h ∧ hL h' = hL h ∧ (∀ F i, ¬ S i → hI h' F i = hI h F i) ∧ ∀ i j, ¬ S i → hA h' i j = hA h i j
variable {S T : Nat → Prop} {h1 : AH}
theorem Fr.ki (f : Fr S h h1) : hK h1 = hK h := f.1
theorem Fr.re (f : Fr S h h1) : hR h1 = hR h := f.2.1
theorem Fr.le (f : Fr S h h1) : hN h1 = hN h := f.2.2.1
theorem Fr.qq (f : Fr S h h1) : hQ h1 = hQ h := f.2.2.2.1
theorem Fr.fi (f : Fr S h h1) {F i : Nat} (hi : ¬ S i) : hI h1 F i = hI h F i := f.2.2.2.2.2.2.2.2.1 F i hi
theorem Fr.ar (f : Fr S h h1) {i j : Nat} (hi : ¬ S i) : hA h1 i j = hA h i j := f.2.2.2.2.2.2.2.2.2 i j hi
theorem Fr.rfl : Fr S h h := ⟨by simp, by simp, by simp, by simp, by simp, by simp, by simp, by simp, fun _ _ _ => by simp, fun _ _ _ => by simp⟩
theorem Fr.tr (f : Fr S h h1) (g : Fr S h1 h2) : Fr S h h2 := by
  obtain ⟨a1, a2, a3, a4, a5, a6, a7, a8, a9, a10⟩ := f
  obtain ⟨b1, b2, b3, b4, b5, b6, b7, b8, b9, b10⟩ := g
  exact ⟨b1.trans a1, b2.trans a2, b3.trans a3, b4.trans a4, b5.trans a5, b6.trans a6, b7.trans a7, b8.trans a8, fun F i hi => (b9 F i hi).trans (a9 F i hi), fun i j hi => (b10 i j hi).trans (a10 i j hi)⟩
theorem Fr.mono (f : Fr S h h1) (hST : ∀ i, S i → T i) : Fr T h h1 := by
  obtain ⟨a1, a2, a3, a4, a5, a6, a7, a8, a9, a10⟩ := f
  exact ⟨a1, a2, a3, a4, a5, a6, a7, a8, fun F i hi => a9 F i (fun q => hi (hST i q)), fun i j hi => a10 i j (fun q => hi (hST i q))⟩
theorem Fr.wI (f : Fr S h h1) {F i : Nat} {v : Int32} (hi : S i) : Fr S h (sI h1 F i v) := by
  obtain ⟨a1, a2, a3, a4, a5, a6, a7, a8, a9, a10⟩ := f
  refine ⟨a1, a2, a3, a4, a5, a6, a7, a8, fun G j hj => ?_, a10⟩
  rw [hI_sI, if_neg (show ¬ (G = F ∧ j = i) from fun q => hj (q.2 ▸ hi))]
  exact a9 G j hj
theorem Fr.wA (f : Fr S h h1) {i k : Nat} {v : Int32} (hi : S i) : Fr S h (sA h1 i k v) := by
  obtain ⟨a1, a2, a3, a4, a5, a6, a7, a8, a9, a10⟩ := f
  refine ⟨a1, a2, a3, a4, a5, a6, a7, a8, a9, fun j l hj => ?_⟩
  rw [hA_sA, if_neg (show ¬ (j = i ∧ l = k) from fun q => hj (q.1 ▸ hi))]
  exact a10 j l hj
theorem Fr.wC (f : Fr S h h1) {s sp d dp n : Nat} (hi : S d) : Fr S h (cpA h1 s sp d dp n) := by
  obtain ⟨a1, a2, a3, a4, a5, a6, a7, a8, a9, a10⟩ := f
  refine ⟨a1, a2, a3, a4, a5, a6, a7, a8, a9, fun j l hj => ?_⟩
  rw [hA_cpA, if_neg (show ¬ j = d from fun q => hj (q ▸ hi))]
  exact a10 j l hj
theorem Fr.st (f : Fr S h h1) (hl : LaySt h a) : LaySt h1 a := by
  unfold LaySt
  rw [f.ki, f.re, f.le, f.qq]
  exact hl
theorem Fr.y (f : Fr S h h1) (hy : LayF h) : LayF h1 := LayF_to hy f.ki f.re f.le
end
