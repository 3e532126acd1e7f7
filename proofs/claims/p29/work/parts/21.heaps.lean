/-! READS OVER WRITES -/
section
variable {h : AH}
theorem hK_sI {F i : Nat} {v : Int32} : hK (sI h F i v) = hK h := Eq.trans rfl rfl
theorem hR_sI {F i : Nat} {v : Int32} : hR (sI h F i v) = hR h := Eq.trans rfl rfl
theorem hN_sI {F i : Nat} {v : Int32} : hN (sI h F i v) = hN h := Eq.trans rfl rfl
theorem hA_sI {F i : Nat} {v : Int32} : hA (sI h F i v) = hA h := Eq.trans rfl rfl
theorem hQ_sI {F i : Nat} {v : Int32} : hQ (sI h F i v) = hQ h := Eq.trans rfl rfl
theorem hL_sI {F i : Nat} {v : Int32} : hL (sI h F i v) = hL h := Eq.trans rfl rfl
theorem hn_sI {F i : Nat} {v : Int32} : hn (sI h F i v) = hn h := Eq.trans rfl rfl
theorem hK_sR {F i j : Nat} : hK (sR h F i j) = hK h := Eq.trans rfl rfl
theorem hI_sR {F i j : Nat} : hI (sR h F i j) = hI h := Eq.trans rfl rfl
theorem hN_sR {F i j : Nat} : hN (sR h F i j) = hN h := Eq.trans rfl rfl
theorem hA_sR {F i j : Nat} : hA (sR h F i j) = hA h := Eq.trans rfl rfl
theorem hQ_sR {F i j : Nat} : hQ (sR h F i j) = hQ h := Eq.trans rfl rfl
theorem hL_sR {F i j : Nat} : hL (sR h F i j) = hL h := Eq.trans rfl rfl
theorem hn_sR {F i j : Nat} : hn (sR h F i j) = hn h := Eq.trans rfl rfl
theorem hK_sA {a j : Nat} {v : Int32} : hK (sA h a j v) = hK h := Eq.trans rfl rfl
theorem hI_sA {a j : Nat} {v : Int32} : hI (sA h a j v) = hI h := Eq.trans rfl rfl
theorem hR_sA {a j : Nat} {v : Int32} : hR (sA h a j v) = hR h := Eq.trans rfl rfl
theorem hN_sA {a j : Nat} {v : Int32} : hN (sA h a j v) = hN h := Eq.trans rfl rfl
theorem hQ_sA {a j : Nat} {v : Int32} : hQ (sA h a j v) = hQ h := Eq.trans rfl rfl
theorem hL_sA {a j : Nat} {v : Int32} : hL (sA h a j v) = hL h := Eq.trans rfl rfl
theorem hn_sA {a j : Nat} {v : Int32} : hn (sA h a j v) = hn h := Eq.trans rfl rfl
theorem hK_sQ {a j v : Nat} : hK (sQ h a j v) = hK h := Eq.trans rfl rfl
theorem hI_sQ {a j v : Nat} : hI (sQ h a j v) = hI h := Eq.trans rfl rfl
theorem hR_sQ {a j v : Nat} : hR (sQ h a j v) = hR h := Eq.trans rfl rfl
theorem hN_sQ {a j v : Nat} : hN (sQ h a j v) = hN h := Eq.trans rfl rfl
theorem hA_sQ {a j v : Nat} : hA (sQ h a j v) = hA h := Eq.trans rfl rfl
theorem hL_sQ {a j v : Nat} : hL (sQ h a j v) = hL h := Eq.trans rfl rfl
theorem hn_sQ {a j v : Nat} : hn (sQ h a j v) = hn h := Eq.trans rfl rfl
theorem hK_sL {a j : Nat} {v : Int64} : hK (sL h a j v) = hK h := Eq.trans rfl rfl
theorem hI_sL {a j : Nat} {v : Int64} : hI (sL h a j v) = hI h := Eq.trans rfl rfl
theorem hR_sL {a j : Nat} {v : Int64} : hR (sL h a j v) = hR h := Eq.trans rfl rfl
theorem hN_sL {a j : Nat} {v : Int64} : hN (sL h a j v) = hN h := Eq.trans rfl rfl
theorem hA_sL {a j : Nat} {v : Int64} : hA (sL h a j v) = hA h := Eq.trans rfl rfl
theorem hQ_sL {a j : Nat} {v : Int64} : hQ (sL h a j v) = hQ h := Eq.trans rfl rfl
theorem hn_sL {a j : Nat} {v : Int64} : hn (sL h a j v) = hn h := Eq.trans rfl rfl
theorem hK_cpA {a sp d dp n : Nat} : hK (cpA h a sp d dp n) = hK h := Eq.trans rfl rfl
theorem hI_cpA {a sp d dp n : Nat} : hI (cpA h a sp d dp n) = hI h := Eq.trans rfl rfl
theorem hR_cpA {a sp d dp n : Nat} : hR (cpA h a sp d dp n) = hR h := Eq.trans rfl rfl
theorem hN_cpA {a sp d dp n : Nat} : hN (cpA h a sp d dp n) = hN h := Eq.trans rfl rfl
theorem hQ_cpA {a sp d dp n : Nat} : hQ (cpA h a sp d dp n) = hQ h := Eq.trans rfl rfl
theorem hL_cpA {a sp d dp n : Nat} : hL (cpA h a sp d dp n) = hL h := Eq.trans rfl rfl
theorem hn_cpA {a sp d dp n : Nat} : hn (cpA h a sp d dp n) = hn h := Eq.trans rfl rfl
theorem hK_bump  : hK (bump h) = hK h := Eq.trans rfl rfl
theorem hI_bump  : hI (bump h) = hI h := Eq.trans rfl rfl
theorem hR_bump  : hR (bump h) = hR h := Eq.trans rfl rfl
theorem hN_bump  : hN (bump h) = hN h := Eq.trans rfl rfl
theorem hA_bump  : hA (bump h) = hA h := Eq.trans rfl rfl
theorem hQ_bump  : hQ (bump h) = hQ h := Eq.trans rfl rfl
theorem hL_bump  : hL (bump h) = hL h := Eq.trans rfl rfl
theorem hn_bump  : hn (bump h) = hn h := Eq.trans rfl rfl
theorem hI_sI {F i F9 i9 : Nat} {v : Int32} : hI (sI h F i v) F9 i9 = if F9 = F ∧ i9 = i then v else hI h F9 i9 := Eq.trans rfl rfl
theorem hR_sR {F i j F9 i9 : Nat} : hR (sR h F i j) F9 i9 = if F9 = F ∧ i9 = i then some j else hR h F9 i9 := Eq.trans rfl rfl
theorem hA_sA {a j a9 j9 : Nat} {v : Int32} : hA (sA h a j v) a9 j9 = if a9 = a ∧ j9 = j then v else hA h a9 j9 := Eq.trans rfl rfl
theorem hQ_sQ {a j v a9 j9 : Nat} : hQ (sQ h a j v) a9 j9 = if a9 = a ∧ j9 = j then some v else hQ h a9 j9 := Eq.trans rfl rfl
theorem hL_sL {a j a9 j9 : Nat} {v : Int64} : hL (sL h a j v) a9 j9 = if a9 = a ∧ j9 = j then v else hL h a9 j9 := Eq.trans rfl rfl
theorem hA_cpA {a sp d dp n a9 j9 : Nat} : hA (cpA h a sp d dp n) a9 j9 = if a9 = d then va_cpy (hA h a) (hA h d) sp dp n j9 else hA h a9 j9 := Eq.trans rfl rfl
theorem isS {x : Nat} : (some x).isSome = true := rfl
theorem getS {x d : Nat} : (some x).getD d = x := rfl
theorem cat_int {x : Int32} : (Value.int x).category = 1 := rfl
theorem cat_ref {x : Nat} : (Value.ref x).category = 1 := rfl
theorem cat_null : Value.null.category = 1 := rfl
theorem cat_ra {x : Nat} : (Value.retAddr x).category = 1 := rfl
theorem wds_nil : wds [] = 0 := rfl
theorem wds_int {x : Int32} {s : List Value} : wds (.int x :: s) = 1 + wds s := rfl
theorem wds_ref {x : Nat} {s : List Value} : wds (.ref x :: s) = 1 + wds s := rfl
theorem wds_long {x : Int64} {s : List Value} : wds (.long x :: s) = 2 + wds s := rfl
theorem wds_ra {x : Nat} {s : List Value} : wds (.retAddr x :: s) = 1 + wds s := rfl
theorem b0 {c : Prop} {inst : Decidable c} : ((@ite Int32 c inst (nI 1) (nI 0)) = nI 0) = ¬ c := by
  by_cases hc : c
  · simp only [hc, if_true, not_true, eq_iff_iff, iff_false]; decide
  · simp only [hc, if_false, not_false_eq_true]
theorem b01 {c : Prop} {inst : Decidable c} : ((@ite Int32 c inst (nI 1) (nI 0)) = nI 0 ∨ (@ite Int32 c inst (nI 1) (nI 0)) = nI 1) = True := by
  by_cases hc : c
  · simp only [hc, if_true, or_true]
  · simp only [hc, if_false, true_or]
theorem b00 : (nI 0 = nI 0 ∨ nI 0 = nI 1) = True := by simp
theorem b11 : (nI 1 = nI 0 ∨ nI 1 = nI 1) = True := by simp
theorem b10 : (nI 1 = nI 0) = False := by rw [eq_iff_iff, iff_false]; decide
theorem idxN {j : Nat} (hj : j < 100000) : (nI j).toNatClampNeg = j := nI_clamp (by omega)
theorem inAN {j n : Nat} (hj : j < n) (hn : n < 100000) : inA (nI j) n = true := by
  unfold inA
  rw [decide_eq_true_eq]
  exact nI_in hj (by omega)
theorem nI_leN {a b : Nat} (ha : a < 2 ^ 31) (hb : b < 2 ^ 31) : (nI a ≤ nI b) = (a ≤ b) := propext (nI_leI ha hb)
theorem nI_ltN {a b : Nat} (ha : a < 2 ^ 31) (hb : b < 2 ^ 31) : (nI a < nI b) = (a < b) := propext (nI_ltI ha hb)
theorem nI_eqN {a b : Nat} (ha : a < 2 ^ 31) (hb : b < 2 ^ 31) : (nI a = nI b) = (a = b) := propext (nI_eq ha hb)
theorem nI_mul {a b : Nat} : nI a * nI b = nI (a * b) := (Int32.ofNat_mul a b).symm
theorem nI_sub {a b : Nat} (hb : b ≤ a) : nI a - nI b = nI (a - b) := by
  have e : nI a = nI (a - b) + nI b := by rw [nI_add]; congr 1; omega
  rw [e, Int32.add_sub_cancel]
theorem nI_m1 {a : Nat} (ha : 1 ≤ a) : nI a + (-1) = nI (a - 1) := by
  rw [← nI_sub ha, Int32.sub_eq_add_neg]
  have e : (-1 : Int32) = -nI 1 := by decide
  rw [e]
theorem nI_eqm {a : Nat} (ha : a < 2 ^ 31) : (nI a = -1) = False := by
  rw [eq_iff_iff, iff_false]
  intro e
  have := congrArg Int32.toInt e
  rw [nI_toInt ha] at this
  have h1 : (-1 : Int32).toInt = -1 := by decide
  omega
theorem nI_mle {a : Nat} (ha : a < 2 ^ 31) : (nI 0 ≤ (-1 : Int32)) = False := by decide
theorem nI_div {a b : Nat} (ha : a < 2 ^ 31) (hb : b < 2 ^ 31) : nI a / nI b = nI (a / b) := by
  rw [← Int32.toInt_inj, Int32.toInt_div, nI_toInt ha, nI_toInt hb, nI_toInt (Nat.lt_of_le_of_lt (Nat.div_le_self a b) ha)]
  have e : ((a : Int).tdiv (b : Int)) = ((a / b : Nat) : Int) := by rw [Int.ofNat_tdiv]
  rw [e]
  have hq := Nat.div_le_self a b
  generalize a / b = q at hq
  exact Int.bmod_eq_of_le (by omega) (by omega)
/-! masks of at most ten bits -/
def b2n (b : Bool) : Nat := if b then 1 else 0
def popc (s : Nat) : Nat := b2n (s.testBit 0) + b2n (s.testBit 1) + b2n (s.testBit 2) + b2n (s.testBit 3) + b2n (s.testBit 4) + b2n (s.testBit 5) + b2n (s.testBit 6) + b2n (s.testBit 7) + b2n (s.testBit 8) + b2n (s.testBit 9)
theorem m_in0 : ∀ i : Fin 10, ∀ s : Fin 1024, (nI s >>> (nI i &&& nI 31)) &&& nI 1 = nI (b2n (Nat.testBit s i)) := by decide +kernel
theorem m_in {s i : Nat} (hs : s < 1024) (hi : i < 10) : (nI s >>> (nI i &&& nI 31)) &&& nI 1 = nI (b2n (s.testBit i)) := m_in0 ⟨i, hi⟩ ⟨s, hs⟩
theorem m_or0 : ∀ i : Fin 10, ∀ s : Fin 1024, nI s ||| (nI 1 <<< (nI i &&& nI 31)) = nI ((s : Nat) ||| 2 ^ (i : Nat)) := by decide +kernel
theorem m_or {s i : Nat} (hs : s < 1024) (hi : i < 10) : nI s ||| (nI 1 <<< (nI i &&& nI 31)) = nI (s ||| 2 ^ i) := m_or0 ⟨i, hi⟩ ⟨s, hs⟩
theorem m_clr0 : ∀ i : Fin 10, ∀ s : Fin 1024, nI s &&& ((nI 1 <<< (nI i &&& nI 31)) ^^^ -1) = nI ((s : Nat) &&& (1023 ^^^ 2 ^ (i : Nat))) := by decide +kernel
theorem m_clr {s i : Nat} (hs : s < 1024) (hi : i < 10) : nI s &&& ((nI 1 <<< (nI i &&& nI 31)) ^^^ -1) = nI (s &&& (1023 ^^^ 2 ^ i)) := m_clr0 ⟨i, hi⟩ ⟨s, hs⟩
theorem m_sh0 : ∀ i : Fin 10, ∀ s : Fin 2, (nI s <<< (nI i &&& nI 31)) = nI ((s : Nat) * 2 ^ (i : Nat)) := by decide +kernel
theorem m_sh {s i : Nat} (hs : s < 2) (hi : i < 10) : (nI s <<< (nI i &&& nI 31)) = nI (s * 2 ^ i) := m_sh0 ⟨i, hi⟩ ⟨s, hs⟩
theorem m_sh1 {i : Nat} (hi : i < 10) : (nI 1 <<< (nI i &&& nI 31)) = nI (2 ^ i) := by rw [m_sh (by omega) hi, Nat.one_mul]
theorem m_orm0 : ∀ i : Fin 10, ∀ b : Fin 2, ∀ s : Fin 1024, nI s ||| nI ((b : Nat) * 2 ^ (i : Nat)) = nI ((s : Nat) ||| (b : Nat) * 2 ^ (i : Nat)) := by decide +kernel
theorem m_orm {s b i : Nat} (hs : s < 1024) (hb : b < 2) (hi : i < 10) : nI s ||| nI (b * 2 ^ i) = nI (s ||| b * 2 ^ i) := m_orm0 ⟨i, hi⟩ ⟨b, hb⟩ ⟨s, hs⟩
/-- the lowest bit of a word -/
def lo1 (x : Int32) : Bool := decide (¬ x &&& nI 1 = nI 0)
theorem and1 (x : Int32) : x &&& nI 1 = nI (b2n (lo1 x)) := by
  unfold lo1 b2n
  by_cases hx : x &&& nI 1 = nI 0
  · simp [hx]
  · simp only [hx, not_false_eq_true, decide_true, if_true]
    have h1 : (x.toBitVec &&& 1#32) = 0#32 ∨ (x.toBitVec &&& 1#32) = 1#32 := by
      rcases Nat.mod_two_eq_zero_or_one x.toBitVec.toNat with e | e
      · left
        apply BitVec.eq_of_toNat_eq
        simp [BitVec.toNat_and, e]
      · right
        apply BitVec.eq_of_toNat_eq
        simp [BitVec.toNat_and, e]
    rcases h1 with e | e
    · exact absurd (Int32.toBitVec_inj.mp (by rw [Int32.toBitVec_and]; exact e)) hx
    · exact Int32.toBitVec_inj.mp (by rw [Int32.toBitVec_and]; exact e)
/-- the mask of a predicate -/
def msk (f : Nat → Bool) : Nat → Nat
  | 0 => 0
  | k + 1 => msk f k ||| b2n (f k) * 2 ^ k
theorem msk_bit (f : Nat → Bool) : ∀ (k i : Nat), (msk f k).testBit i = (decide (i < k) && f i)
  | 0, i => by simp [msk]
  | k + 1, i => by
    unfold msk
    rw [Nat.testBit_or, msk_bit f k i]
    unfold b2n
    rcases Nat.lt_trichotomy i k with a | a | a
    · have h1 : ¬ k = i := by omega
      cases hf : f k <;> simp [a, Nat.testBit_two_pow, h1, show i < k + 1 by omega]
    · subst a
      cases hf : f i <;> simp [Nat.testBit_two_pow, hf]
    · have h1 : ¬ k = i := by omega
      cases hf : f k <;> simp [Nat.testBit_two_pow, h1, show ¬ i < k + 1 by omega, show ¬ i < k by omega]
theorem msk_lt (f : Nat → Bool) : ∀ (k : Nat), msk f k < 2 ^ k
  | 0 => by simp [msk]
  | k + 1 => by
    unfold msk
    refine Nat.or_lt_two_pow (Nat.lt_of_lt_of_le (msk_lt f k) (Nat.pow_le_pow_right (by omega) (by omega))) ?_
    unfold b2n
    have := Nat.two_pow_pos k
    cases f k <;> simp [Nat.pow_succ] <;> omega
theorem msk_congr {f g : Nat → Bool} : ∀ {k : Nat}, (∀ i, i < k → f i = g i) → msk f k = msk g k
  | 0, _ => rfl
  | k + 1, h => by
    unfold msk
    rw [msk_congr (fun i hi => h i (by omega)), h k (by omega)]
theorem msk_le {k m : Nat} (f : Nat → Bool) (hk : k ≤ m) : msk f k < 2 ^ m := Nat.lt_of_lt_of_le (msk_lt f k) (Nat.pow_le_pow_right (by omega) hk)
theorem msk_8 {k : Nat} (f : Nat → Bool) (hk : k ≤ 8) : msk f k < 256 := msk_le f hk
theorem msk_10 {k : Nat} (f : Nat → Bool) (hk : k ≤ 10) : msk f k < 1024 := msk_le f hk
theorem mask_ext {s t k : Nat} (hs : s < 2 ^ k) (ht : t < 2 ^ k) (h : ∀ i, i < k → s.testBit i = t.testBit i) : s = t := by
  apply Nat.eq_of_testBit_eq
  intro i
  by_cases hi : i < k
  · exact h i hi
  · rw [Nat.testBit_lt_two_pow (Nat.lt_of_lt_of_le hs (Nat.pow_le_pow_right (by omega) (by omega))), Nat.testBit_lt_two_pow (Nat.lt_of_lt_of_le ht (Nat.pow_le_pow_right (by omega) (by omega)))]
end
/-! CALLS AND OUTCOMES -/
section
variable {L : Nat} {xs : Nat → Int32} {m : MD} {pc pc' : Nat} {Ls st : List Value} {h : AH}
theorem kn1 {v : Value} : kn L xs m pc pc' Ls st (some (.inl (some v, h))) = ev L xs m pc' Ls (v :: st) h := Eq.trans rfl rfl
theorem kn0 : kn L xs m pc pc' Ls st (some (.inl (none, h))) = ev L xs m pc' Ls st h := Eq.trans rfl rfl
theorem knx {E : String} : kn L xs m pc pc' Ls st (some (.inr (E, h))) = kx (hstep m pc Ls E) (fun pc2 Ls2 => ev L xs m pc2 Ls2 [] h) := Eq.trans rfl rfl
theorem knite {c : Prop} {inst : Decidable c} {r r' : Option Res} : kn L xs m pc pc' Ls st (@ite _ c inst r r') = @ite _ c inst (kn L xs m pc pc' Ls st r) (kn L xs m pc pc' Ls st r') := by split <;> rfl
def Ev (r : Option Res) (Q : Res → Prop) : Prop := ∃ z, r = some z ∧ Q z
variable {Q : Res → Prop}
theorem Ev_some {z : Res} : Ev (some z) Q = Q z := propext ⟨fun ⟨_, e, q⟩ => by cases e; exact q, fun q => ⟨z, rfl, q⟩⟩
theorem Ev_ite {c : Prop} {inst : Decidable c} {r r' : Option Res} (h1 : c → Ev r Q) (h2 : ¬ c → Ev r' Q) : Ev (@ite _ c inst r r') Q := by
  split
  · exact h1 ‹_›
  · exact h2 ‹_›
theorem Ev_eq {r : Option Res} {c : Res} (h : Ev r (fun z => z = c)) : r = some c := by
  obtain ⟨z, e, q⟩ := h
  rw [e, q]
theorem Ev_call {r : Option Res} {Q' : Res → Prop} (h1 : Ev r Q') (h2 : ∀ z, Q' z → Ev (kn L xs m pc pc' Ls st (some z)) Q) : Ev (kn L xs m pc pc' Ls st r) Q := by
  obtain ⟨z, e, q⟩ := h1
  rw [e]
  exact h2 z q
theorem Ev_mono {r : Option Res} {Q' : Res → Prop} (h1 : Ev r Q') (h2 : ∀ z, Q' z → Q z) : Ev r Q := by
  obtain ⟨z, e, q⟩ := h1
  exact ⟨z, e, h2 z q⟩
theorem Ev_loop {hd n : Nat} (I : Nat → List Value → AH → Prop) (step : ∀ i Ls h, i < n → I i Ls h → (∀ Ls' h', I (i + 1) Ls' h' → Ev (ev L xs m hd Ls' [] h') Q) → Ev (ev L xs m hd Ls [] h) Q) (fin : ∀ Ls h, I n Ls h → Ev (ev L xs m hd Ls [] h) Q) {i : Nat} {Ls : List Value} {h : AH} (hi : i ≤ n) (h0 : I i Ls h) : Ev (ev L xs m hd Ls [] h) Q := by
  have key : ∀ k i Ls h, i + k = n → I i Ls h → Ev (ev L xs m hd Ls [] h) Q := by
    intro k
    induction k with
    | zero => intro i Ls h e hI; have : i = n := by omega
              subst this; exact fin _ _ hI
    | succ k ih => intro i Ls h e hI; exact step i Ls h (by omega) hI (fun Ls' h' hI' => ih (i + 1) Ls' h' (by omega) hI')
  exact key (n - i) i Ls h (by omega) h0
/-- the first n turns of a loop, purely -/
def it {α : Type} (f : Nat → α → α) (s : α) : Nat → α
  | 0 => s
  | n + 1 => f n (it f s n)
theorem it_congr {α : Type} {f g : Nat → α → α} {s : α} : ∀ {n : Nat}, (∀ i a, i < n → f i a = g i a) → it f s n = it g s n
  | 0, _ => rfl
  | n + 1, h => by
    show f n (it f s n) = g n (it g s n)
    rw [it_congr (fun i a hi => h i a (by omega)), h n _ (by omega)]
end
