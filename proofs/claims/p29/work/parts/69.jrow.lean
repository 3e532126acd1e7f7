/-! WHAT HOLDS OF A GUARD'S ROW, AND THE SUMS -/
def vN (x : Int32) : Nat := x.toNatClampNeg
def sumN (f : Nat → Nat) : Nat → Nat := it (fun i a => a + f i) 0
def GJ (f : Rw) (B : Nat) : Prop := ∃ st w a b e : Nat, (st ≤ 5 ∧ w ≤ 19 ∧ a + b ≤ B ∧ 10 * (a + b) ≤ e ∧ e ≤ 60 * (a + b) ∧ (st < 5 → 20 * st + w = a + b)) ∧ f 3 = nI st ∧ f 4 = nI w ∧ f 5 = nI e ∧ f 7 = nI a ∧ f 8 = nI b
theorem vN_nI {k : Nat} (hk : k < 100000) : vN (nI k) = k := idxN hk
theorem GJ.congr {f f' : Rw} {B B' : Nat} (j : GJ f B) (hB : B ≤ B') (h3 : f' 3 = f 3) (h4 : f' 4 = f 4) (h5 : f' 5 = f 5) (h7 : f' 7 = f 7) (h8 : f' 8 = f 8) : GJ f' B' := by
  obtain ⟨st, w, a, b, e, ⟨c1, c2, c3, c4, c5, c6⟩, e3, e4, e5, e7, e8⟩ := j
  exact ⟨st, w, a, b, e, ⟨c1, c2, by omega, c4, c5, c6⟩, h3.trans e3, h4.trans e4, h5.trans e5, h7.trans e7, h8.trans e8⟩
theorem dst_5 {u v : Nat} (hu : u ≤ 99) (hv : v ≤ 99) : ∃ x, x ≤ 19 ∧ dst (nI u) (nI v) / nI 5 = nI x := by
  have z := dN_le hu hv
  rw [dst_N (by omega) (by omega), nI_div (by omega) (by omega)]
  exact ⟨_, by omega, rfl⟩
theorem gSt_7 {f : Rw} {p pl : Int32} : gSt f p pl 7 = if p = f 2 then f 7 + nI 1 else f 7 := by
  unfold gSt
  rw [if_neg (by omega), if_pos rfl]
theorem gSt_8 {f : Rw} {p pl : Int32} : gSt f p pl 8 = if p = f 2 then f 8 else f 8 + nI 1 := by
  unfold gSt
  rw [if_neg (by omega), if_neg (by omega), if_pos rfl]
theorem gSt_4 {f : Rw} {p pl : Int32} : gSt f p pl 4 = if f 4 + nI 1 = nI 20 then nI 0 else f 4 + nI 1 := by
  unfold gSt
  rw [if_neg (by omega), if_neg (by omega), if_neg (by omega), if_pos rfl]
theorem gSt_3 {f : Rw} {p pl : Int32} : gSt f p pl 3 = if f 4 + nI 1 = nI 20 then (if f 3 = nI 5 then nI 5 else f 3 + nI 1) else f 3 := by
  unfold gSt
  rw [if_neg (by omega), if_neg (by omega), if_neg (by omega), if_neg (by omega), if_pos rfl]
theorem gSt_5 {f : Rw} {p pl : Int32} : gSt f p pl 5 = f 5 + (nI 10 + nI 2 * f 3 + (if p = f 2 then nI 0 else dst (f 0) pl / nI 5)) := by
  unfold gSt
  rw [if_pos rfl]
theorem GJ_pay {f : Rw} {B u pl : Nat} {p : Int32} (j : GJ f B) (hB : B < 50000) (hu : f 0 = nI u) (u9 : u ≤ 99) (hp : pl ≤ 99) : GJ (gSt f p (nI pl)) (B + 1) ∧ vN (gSt f p (nI pl) 7) + vN (gSt f p (nI pl) 8) = vN (f 7) + vN (f 8) + 1 := by
  obtain ⟨st, w, a, b, e, ⟨c1, c2, c3, c4, c5, c6⟩, e3, e4, e5, e7, e8⟩ := j
  obtain ⟨x, x9, ex⟩ := dst_5 u9 hp
  have q4 : (f 4 + nI 1 = nI 20) = (w = 19) := by
    rw [e4, nI_add, nI_eqN (by omega) (by omega), eq_iff_iff]
    omega
  have q3 : (f 3 = nI 5) = (st = 5) := by rw [e3, nI_eqN (by omega) (by omega)]
  have e9 : ∃ y, y ≤ 19 ∧ gSt f p (nI pl) 5 = nI (e + (10 + 2 * st + y)) := by
    rw [gSt_5, e5, e3, hu, ex]
    split
    · exact ⟨0, by omega, by rw [nI_mul, nI_add, nI_add, nI_add]⟩
    · exact ⟨x, x9, by rw [nI_mul, nI_add, nI_add, nI_add]⟩
  obtain ⟨y, y9, ey⟩ := e9
  have f3 : gSt f p (nI pl) 3 = nI (if w = 19 then (if st = 5 then 5 else st + 1) else st) := by
    rw [gSt_3]
    simp only [q4, q3]
    split
    · split
      · rfl
      · rw [e3, nI_add]
    · exact e3
  have f4 : gSt f p (nI pl) 4 = nI (if w = 19 then 0 else w + 1) := by
    rw [gSt_4]
    simp only [q4]
    split
    · rfl
    · rw [e4, nI_add]
  have key : ∀ a' b', gSt f p (nI pl) 7 = nI a' → gSt f p (nI pl) 8 = nI b' → a' + b' = a + b + 1 → GJ (gSt f p (nI pl)) (B + 1) ∧ vN (gSt f p (nI pl) 7) + vN (gSt f p (nI pl) 8) = vN (f 7) + vN (f 8) + 1 := by
    intro a' b' h7 h8 hs
    refine ⟨⟨_, _, a', b', _, ⟨?_, ?_, ?_, ?_, ?_, ?_⟩, f3, f4, ey, h7, h8⟩, ?_⟩
    · split
      · split <;> omega
      · exact c1
    · split <;> omega
    · omega
    · omega
    · omega
    · by_cases w9 : w = 19
      · rw [if_pos w9, if_pos w9]
        by_cases s5 : st = 5
        · rw [if_pos s5]; omega
        · rw [if_neg s5]; omega
      · rw [if_neg w9, if_neg w9]; omega
    · rw [h7, h8, e7, e8, vN_nI (by omega), vN_nI (by omega), vN_nI (by omega), vN_nI (by omega)]
      omega
  by_cases c : p = f 2
  · refine key (a + 1) b ?_ ?_ (by omega)
    · rw [gSt_7, if_pos c, e7, nI_add]
    · rw [gSt_8, if_pos c, e8]
  · refine key a (b + 1) ?_ ?_ (by omega)
    · rw [gSt_7, if_neg c, e7]
    · rw [gSt_8, if_neg c, e8, nI_add]
theorem sumN_congr {f f' : Nat → Nat} : ∀ {k : Nat}, (∀ i, i < k → f' i = f i) → sumN f' k = sumN f k
  | 0, _ => rfl
  | k + 1, h => by
    show sumN f' k + f' k = sumN f k + f k
    rw [sumN_congr (fun i hi => h i (by omega)), h k (by omega)]
theorem sumN_one {f f' : Nat → Nat} {j : Nat} : ∀ {k : Nat}, j < k → f' j = f j + 1 → (∀ i, i < k → ¬ i = j → f' i = f i) → sumN f' k = sumN f k + 1
  | 0, h, _, _ => absurd h (Nat.not_lt_zero _)
  | k + 1, h, h1, h2 => by
    show sumN f' k + f' k = sumN f k + f k + 1
    by_cases e : j = k
    · subst e
      rw [sumN_congr (fun i hi => h2 i (by omega) (by omega)), h1]
      omega
    · rw [sumN_one (by omega) h1 (fun i hi hn9 => h2 i (by omega) hn9), h2 k (by omega) (fun z => e z.symm)]
      omega
theorem sumN_add {f f' : Nat → Nat} {b : Nat → Bool} : ∀ {k : Nat}, (∀ i, i < k → f' i = f i + b2n (b i)) → sumN f' k = sumN f k + cnt b k
  | 0, _ => rfl
  | k + 1, h => by
    show sumN f' k + f' k = sumN f k + f k + (cnt b k + b2n (b k))
    rw [sumN_add (fun i hi => h i (by omega)), h k (by omega)]
    omega
theorem sumN_mem {f : Nat → Nat} {j : Nat} : ∀ {k : Nat}, j < k → f j ≤ sumN f k
  | 0, h => absurd h (Nat.not_lt_zero _)
  | k + 1, h => by
    show f j ≤ sumN f k + f k
    by_cases e : j = k
    · subst e; omega
    · have := sumN_mem (f := f) (j := j) (k := k) (by omega)
      omega
def tA (r : Rw) : Nat → Nat := sumN (fun g => vN (r (100 + 9 * g)) + vN (r (101 + 9 * g)))
def tO (r : Rw) : Nat → Nat := sumN (fun p => vN (r (23 + 9 * p)))
/-! what a session leaves at the posts -/
section
variable {r : Rw} {H P G n B : Nat} {s : LK}
theorem goS_no {p k : Nat} (hp : p < 8) (hk : k < 93) : goS s n p r k = noteR r p (s.1 p) (s.2.1 p) (nI n) k := by
  unfold goS
  split
  · rfl
  · rw [payR_lo hk]
theorem itS_28 {q : Nat} (hq : q < 8) : ∀ {i : Nat}, i ≤ 8 → it (goS s n) r i (28 + 9 * q) = if q < i then s.1 q else r (28 + 9 * q)
  | 0, _ => by rw [if_neg (by omega)]; rfl
  | i + 1, hi => by
    have ih := itS_28 hq (i := i) (by omega)
    show goS s n i (it (goS s n) r i) (28 + 9 * q) = _
    rw [goS_no (by omega) (by omega)]
    unfold noteR
    by_cases c : q = i
    · subst c
      rw [if_pos rfl, if_pos (by omega)]
    · rw [if_neg (by omega), if_neg (by omega), if_neg (by omega), if_neg (by omega), ih]
      by_cases d : q < i
      · rw [if_pos d, if_pos (by omega)]
      · rw [if_neg d, if_neg (by omega)]
theorem itS_29 {q : Nat} (hq : q < 8) : ∀ {i : Nat}, i ≤ 8 → it (goS s n) r i (29 + 9 * q) = if q < i then s.2.1 q else r (29 + 9 * q)
  | 0, _ => by rw [if_neg (by omega)]; rfl
  | i + 1, hi => by
    have ih := itS_29 hq (i := i) (by omega)
    show goS s n i (it (goS s n) r i) (29 + 9 * q) = _
    rw [goS_no (by omega) (by omega)]
    unfold noteR
    by_cases c : q = i
    · subst c
      rw [if_neg (by omega), if_pos rfl, if_pos (by omega)]
    · rw [if_neg (by omega), if_neg (by omega), if_neg (by omega), if_neg (by omega), ih]
      by_cases d : q < i
      · rw [if_pos d, if_pos (by omega)]
      · rw [if_neg d, if_neg (by omega)]
theorem itS_25 {q : Nat} (hq : q < 8) : ∀ {i : Nat}, i ≤ 8 → it (goS s n) r i (25 + 9 * q) = if q < i ∧ ¬ s.2.1 q = nI 0 then nI n else r (25 + 9 * q)
  | 0, _ => by rw [if_neg (by omega)]; rfl
  | i + 1, hi => by
    have ih := itS_25 hq (i := i) (by omega)
    show goS s n i (it (goS s n) r i) (25 + 9 * q) = _
    rw [goS_no (by omega) (by omega)]
    unfold noteR
    by_cases c : q = i
    · subst c
      rw [if_neg (by omega), if_neg (by omega), if_neg (by omega)]
      by_cases d : s.2.1 q = nI 0
      · rw [if_neg (fun z => z.2 d), if_neg (fun z => z.2 d), ih, if_neg (by omega)]
      · rw [if_pos ⟨rfl, d⟩, if_pos ⟨by omega, d⟩]
    · rw [if_neg (by omega), if_neg (by omega), if_neg (by omega), if_neg (by omega), ih]
      by_cases d : q < i ∧ ¬ s.2.1 q = nI 0
      · rw [if_pos d, if_pos ⟨by omega, d.2⟩]
      · rw [if_neg d, if_neg (fun z => d ⟨by omega, z.2⟩)]
theorem goR_e {k : Nat} (h0 : ¬ k = 0) (h1 : ¬ k = 1) (h5 : ¬ k = 5) (h6 : ¬ k = 6) (h7 : ¬ k = 7) : goR r H P G n k = it (goS (goL r H P G n) n) r P k := by
  unfold goR
  rw [if_neg h0, if_neg h1, if_neg h5, if_neg h6, if_neg h7]
theorem goR_28 {p : Nat} (hP : P ≤ 8) (hp : p < P) : goR r H P G n (28 + 9 * p) = (goL r H P G n).1 p := by
  rw [goR_e (by omega) (by omega) (by omega) (by omega) (by omega), itS_28 (by omega) hP, if_pos hp]
theorem goR_29 {p : Nat} (hP : P ≤ 8) (hp : p < P) : goR r H P G n (29 + 9 * p) = (goL r H P G n).2.1 p := by
  rw [goR_e (by omega) (by omega) (by omega) (by omega) (by omega), itS_29 (by omega) hP, if_pos hp]
theorem goR_25 {p : Nat} (hP : P ≤ 8) (hp : p < P) : goR r H P G n (25 + 9 * p) = if ¬ (goL r H P G n).2.1 p = nI 0 then nI n else r (25 + 9 * p) := by
  rw [goR_e (by omega) (by omega) (by omega) (by omega) (by omega), itS_25 (by omega) hP]
  by_cases d : (goL r H P G n).2.1 p = nI 0
  · rw [if_neg (fun z => z.2 d), if_neg (fun z => z d)]
  · rw [if_pos ⟨hp, d⟩, if_pos d]
theorem goR_27 {p : Nat} (hP : P ≤ 8) : goR r H P G n (27 + 9 * p) = if 27 + 9 * p < 93 then r (27 + 9 * p) else goR r H P G n (27 + 9 * p) := by
  by_cases c : 27 + 9 * p < 93
  · rw [if_pos c, goR_e (by omega) (by omega) (by omega) (by omega) (by omega), itS_pl c (fun q => ⟨by omega, by omega, by omega, by omega⟩)]
  · rw [if_neg c]
/-- the guards' rows under way -/
theorem pay_it (hP : P ≤ 8) (hG : G ≤ 10) (hB : B + P < 50000) (w : whoOK s G) (ok : rowOK r H P G n) (j : ∀ g, g < G → GJ (gRow r g) B) : ∀ i, i ≤ P → (∀ g, g < G → GJ (gRow (it (goS s n) r i) g) (B + i)) ∧ tA (it (goS s n) r i) G = tA r G + cnt (stn s) i
  | 0, _ => ⟨j, rfl⟩
  | i + 1, hi => by
    obtain ⟨ih1, ih2⟩ := pay_it hP hG hB w ok j i (by omega)
    have hi8 : i < 8 := by omega
    have e0 : ∀ g, it (goS s n) r i (93 + 9 * g) = r (93 + 9 * g) := fun g => itS_at (j := g) (k := 0) (by omega) (fun f p pl => gSt0) (by omega)
    have e1 : it (goS s n) r i (21 + 9 * i) = r (21 + 9 * i) := itS_pl (by omega) (fun q => ⟨by omega, by omega, by omega, by omega⟩)
    have c9 : cnt (stn s) (i + 1) = cnt (stn s) i + b2n (stn s i) := rfl
    show (∀ g, g < G → GJ (gRow (goS s n i (it (goS s n) r i)) g) (B + (i + 1))) ∧ tA (goS s n i (it (goS s n) r i)) G = tA r G + cnt (stn s) (i + 1)
    generalize it (goS s n) r i = q at *
    have hi2 : ∀ k, 93 ≤ k → noteR q i (s.1 i) (s.2.1 i) (nI n) k = q k := fun k hk => noteR_hi hi8 hk
    have lo2 : noteR q i (s.1 i) (s.2.1 i) (nI n) (21 + 9 * i) = q (21 + 9 * i) := by
      unfold noteR
      rw [if_neg (by omega), if_neg (by omega), if_neg (by omega), if_neg (by omega)]
    unfold goS
    by_cases c : s.1 i = -1
    · rw [if_pos c]
      refine ⟨fun g hg => (ih1 g hg).congr (by omega) (hi2 _ (by omega)) (hi2 _ (by omega)) (hi2 _ (by omega)) (hi2 _ (by omega)) (hi2 _ (by omega)), ?_⟩
      have z : stn s i = false := by unfold stn; simp [c]
      rw [c9, z, show tA (noteR q i (s.1 i) (s.2.1 i) (nI n)) G = tA q G from sumN_congr (fun g _ => by rw [hi2 _ (by omega), hi2 _ (by omega)]), ih2]
      rfl
    · rw [if_neg c]
      obtain ⟨g, hg, eg⟩ := (w.1 i).resolve_left c
      rw [show (s.1 i).toNatClampNeg = g by rw [eg, idxN (by omega)]]
      generalize noteR q i (s.1 i) (s.2.1 i) (nI n) = t at *
      obtain ⟨u, u9, eu⟩ := ok.2.2.2.2.2.2.2.2.2.2 g hg
      obtain ⟨v, v9, ev9⟩ := ok.2.2.2.2.2.2.2.2.2.1 i (by omega)
      have gt : GJ (gRow t g) (B + i) := (ih1 g hg).congr (Nat.le_refl _) (hi2 _ (by omega)) (hi2 _ (by omega)) (hi2 _ (by omega)) (hi2 _ (by omega)) (hi2 _ (by omega))
      have pj := GJ_pay (p := nI i) (pl := v) gt (by omega) (show gRow t g 0 = nI u by show t (93 + 9 * g + 0) = _; rw [Nat.add_zero, hi2 _ (by omega), e0, eu]) u9 v9
      have ep : t (21 + 9 * i) = nI v := by rw [lo2, e1, ev9]
      have row : ∀ k, k < 9 → payR t g i (93 + 9 * g + k) = gSt (gRow t g) (nI i) (nI v) k := by
        intro k hk
        unfold payR
        rw [if_pos ⟨by omega, by omega⟩, ep, show 93 + 9 * g + k - (93 + 9 * g) = k by omega]
        rfl
      have oth : ∀ k, 93 ≤ k → ¬ (93 + 9 * g ≤ k ∧ k < 102 + 9 * g) → payR t g i k = q k := by
        intro k h1 h2
        unfold payR
        rw [if_neg h2, hi2 k h1]
      refine ⟨fun k hk => ?_, ?_⟩
      · by_cases e : k = g
        · rw [e]
          exact pj.1.congr (by omega) (row 3 (by omega)) (row 4 (by omega)) (row 5 (by omega)) (row 7 (by omega)) (row 8 (by omega))
        · exact (ih1 k hk).congr (by omega) (oth _ (by omega) (by omega)) (oth _ (by omega) (by omega)) (oth _ (by omega) (by omega)) (oth _ (by omega) (by omega)) (oth _ (by omega) (by omega))
      · have z : stn s i = true := by unfold stn; simp [c]
        rw [c9, z, ← Nat.add_assoc, ← ih2]
        refine sumN_one hg ?_ (fun k hk hn9 => ?_)
        · have r7 := row 7 (by omega)
          have r8 := row 8 (by omega)
          rw [show 93 + 9 * g + 7 = 100 + 9 * g by omega] at r7
          rw [show 93 + 9 * g + 8 = 101 + 9 * g by omega] at r8
          rw [r7, r8, pj.2]
          show vN (t (93 + 9 * g + 7)) + vN (t (93 + 9 * g + 8)) + 1 = _
          rw [hi2 _ (by omega), hi2 _ (by omega), show 93 + 9 * g + 7 = 100 + 9 * g by omega, show 93 + 9 * g + 8 = 101 + 9 * g by omega]
        · rw [oth _ (by omega) (by omega), oth _ (by omega) (by omega)]
end
