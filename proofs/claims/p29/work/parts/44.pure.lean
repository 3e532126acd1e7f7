/-! PURE: rows, their bounds; what stays through a session -/
theorem eqF {x y : Nat} (h : ¬ x = y) : (x = y) = False := eq_false h
def rowOK (r : Rw) (H P G n : Nat) : Prop := H ≤ 6 ∧ P ≤ 8 ∧ G ≤ 10 ∧ n < 20000 ∧ r 0 = nI (n / 2) ∧ r 1 = nI (n % 2) ∧ r 2 = nI H ∧ r 3 = nI P ∧ r 4 = nI G ∧ (∀ p, p < P → ∃ u, u ≤ 99 ∧ r (21 + 9 * p) = nI u) ∧ ∀ g, g < G → ∃ u, u ≤ 99 ∧ r (93 + 9 * g) = nI u
theorem i32_rng {v : Int32} {a b : Nat} (ha : a < 2 ^ 31) (hb : b < 2 ^ 31) (h0 : nI a ≤ v) (h1 : v ≤ nI b) : ∃ d, a ≤ d ∧ d ≤ b ∧ v = nI d := by
  have e1 : (nI a).toInt ≤ v.toInt := Int32.le_iff_toInt_le.mp h0
  have e2 : v.toInt ≤ (nI b).toInt := Int32.le_iff_toInt_le.mp h1
  rw [nI_toInt ha] at e1
  rw [nI_toInt hb] at e2
  refine ⟨v.toInt.toNat, by omega, by omega, ?_⟩
  rw [← Int32.toInt_inj, nI_toInt (by omega)]
  omega
def cBd (r : Rw) (P B : Nat) : Prop := ∀ p, p < P → ∃ c, c ≤ B ∧ r (24 + 9 * p) = nI c
section
variable {r : Rw} {H P G n : Nat}
theorem rowOK.to {r r' : Rw} {H P G n : Nat} (ok : rowOK r H P G n) (e : ∀ k, k < 5 → r' k = r k) (e2 : ∀ p, p < P → r' (21 + 9 * p) = r (21 + 9 * p)) (e3 : ∀ g, g < G → r' (93 + 9 * g) = r (93 + 9 * g)) : rowOK r' H P G n := by
  obtain ⟨a1, a2, a3, a4, a5, a6, a7, a8, a9, a10, a11⟩ := ok
  refine ⟨a1, a2, a3, a4, by rw [e 0 (by omega)]; exact a5, by rw [e 1 (by omega)]; exact a6, by rw [e 2 (by omega)]; exact a7, by rw [e 3 (by omega)]; exact a8, by rw [e 4 (by omega)]; exact a9, fun p hp => ?_, fun g hg => ?_⟩
  · rw [e2 p hp]; exact a10 p hp
  · rw [e3 g hg]; exact a11 g hg
theorem hol_ok {x y : Int32} (ok : rowOK r H P G n) (hH : H < 6) : rowOK (holR r H x y) (H + 1) P G n := by
  obtain ⟨a1, a2, a3, a4, a5, a6, a7, a8, a9, a10, a11⟩ := ok
  have e : ∀ k, ¬ k = 9 + 2 * H → ¬ k = 10 + 2 * H → ¬ k = 2 → holR r H x y k = r k := by
    intro k h1 h2 h3
    unfold holR
    rw [if_neg h1, if_neg h2, if_neg h3]
  refine ⟨by omega, a2, a3, a4, ?_, ?_, ?_, ?_, ?_, fun p hp => ?_, fun g hg => ?_⟩
  · rw [e _ (by omega) (by omega) (by omega)]; exact a5
  · rw [e _ (by omega) (by omega) (by omega)]; exact a6
  · unfold holR
    rw [if_neg (by omega), if_neg (by omega), if_pos rfl]
  · rw [e _ (by omega) (by omega) (by omega)]; exact a8
  · rw [e _ (by omega) (by omega) (by omega)]; exact a9
  · rw [e _ (by omega) (by omega) (by omega)]; exact a10 p hp
  · rw [e _ (by omega) (by omega) (by omega)]; exact a11 g hg
theorem post_ok {x y : Int32} (ok : rowOK r H P G n) (hP : P < 8) (hx : ∃ u, u ≤ 99 ∧ x = nI u) : rowOK (postR r P x y) H (P + 1) G n := by
  obtain ⟨a1, a2, a3, a4, a5, a6, a7, a8, a9, a10, a11⟩ := ok
  have e : ∀ k, ¬ (21 + 9 * P ≤ k ∧ k < 30 + 9 * P) → ¬ k = 3 → postR r P x y k = r k := by
    intro k h1 h3
    unfold postR
    rw [if_neg h1, if_neg h3]
  refine ⟨a1, by omega, a3, a4, ?_, ?_, ?_, ?_, ?_, fun p hp => ?_, fun g hg => ?_⟩
  · rw [e _ (by omega) (by omega)]; exact a5
  · rw [e _ (by omega) (by omega)]; exact a6
  · rw [e _ (by omega) (by omega)]; exact a7
  · unfold postR
    rw [if_neg (by omega), if_pos rfl]
  · rw [e _ (by omega) (by omega)]; exact a9
  · by_cases c : p = P
    · subst c
      obtain ⟨u, hu, eu⟩ := hx
      refine ⟨u, hu, ?_⟩
      unfold postR
      rw [if_pos ⟨by omega, by omega⟩, show 21 + 9 * p - (21 + 9 * p) = 0 by omega, ← eu]
      rfl
    · rw [e _ (by omega) (by omega)]; exact a10 p (by omega)
  · rw [e _ (by omega) (by omega)]; exact a11 g hg
theorem guard_ok {x y z : Int32} (ok : rowOK r H P G n) (hG : G < 10) (hx : ∃ u, u ≤ 99 ∧ x = nI u) : rowOK (guardR r G x y z) H P (G + 1) n := by
  obtain ⟨a1, a2, a3, a4, a5, a6, a7, a8, a9, a10, a11⟩ := ok
  have e : ∀ k, ¬ (93 + 9 * G ≤ k ∧ k < 102 + 9 * G) → ¬ k = 4 → guardR r G x y z k = r k := by
    intro k h1 h3
    unfold guardR
    rw [if_neg (by omega), if_neg (by omega), if_neg (by omega), if_neg (by omega), if_neg h3]
  refine ⟨a1, a2, by omega, a4, ?_, ?_, ?_, ?_, ?_, fun p hp => ?_, fun g hg => ?_⟩
  · rw [e _ (by omega) (by omega)]; exact a5
  · rw [e _ (by omega) (by omega)]; exact a6
  · rw [e _ (by omega) (by omega)]; exact a7
  · rw [e _ (by omega) (by omega)]; exact a8
  · unfold guardR
    rw [if_neg (by omega), if_neg (by omega), if_neg (by omega), if_neg (by omega), if_pos rfl]
  · rw [e _ (by omega) (by omega)]; exact a10 p hp
  · by_cases c : g = G
    · subst c
      obtain ⟨u, hu, eu⟩ := hx
      refine ⟨u, hu, ?_⟩
      unfold guardR
      rw [if_pos rfl, eu]
    · rw [e _ (by omega) (by omega)]; exact a11 g (by omega)
theorem pu_ok {k : Nat} {v : Int32} (ok : rowOK r H P G n) (h5 : 5 ≤ k) (h1 : ∀ p, ¬ k = 21 + 9 * p ∨ 93 ≤ k) (h2 : ∀ g, ¬ k = 93 + 9 * g) : rowOK (pu r k v) H P G n := by
  have P8 := ok.2.1
  have e : ∀ j, ¬ j = k → pu r k v j = r j := fun j hj => if_neg hj
  refine ok.to (fun j hj => e j (by omega)) (fun p hp => e _ (fun z => ?_)) (fun g hg => e _ (fun z => h2 g z.symm))
  rcases h1 p with q | q
  · exact q z.symm
  · omega
theorem compl_ok {p : Nat} (ok : rowOK r H P G n) (hp : p < P) : rowOK (complR r p n) H P G n := by
  have P8 := ok.2.1
  have e : ∀ j, ¬ j = 8 → ¬ j = 24 + 9 * p → ¬ j = 27 + 9 * p → ¬ j = 26 + 9 * p → complR r p n j = r j := by
    intro j h1 h2 h3 h4
    unfold complR
    rw [if_neg h1, if_neg h2, if_neg h3, if_neg h4]
  exact ok.to (fun j hj => e j (by omega) (by omega) (by omega) (by omega)) (fun q hq => e _ (by omega) (by omega) (by omega) (by omega)) (fun g hg => e _ (by omega) (by omega) (by omega) (by omega))
end
section
variable {r r' : Rw} {H P G n : Nat} {W W' nd nd' : Nat → Bool} {s s' : LK}
theorem nearF_succ {free : Nat → Bool} {ds re st : Rw} {i : Nat} : nearF free ds re st (i + 1) = if free i = true ∧ ¬ re i < ds i ∧ ahead ds st i (nearF free ds re st i) = true then some i else nearF free ds re st i := rfl
theorem own_open {i : Nat} : (ownL r W nd i).2.2.2 = 0 := by
  induction i with
  | zero => rfl
  | succ i ih =>
    show (ownS r W nd i (ownL r W nd i)).2.2.2 = 0
    unfold ownS
    split <;> exact ih
theorem op_1 {i : Nat} (hi : i ≤ 8) : ∀ p, (it (turnS r W nd G n true) (ownL r W nd G) i).2.2.2.testBit p = true → (it (turnS r W nd G n true) (ownL r W nd G) i).1 p = -1 ∧ p < i ∧ nI n < r (26 + 9 * p) := by
  induction i with
  | zero =>
    intro p hp
    change (ownL r W nd G).2.2.2.testBit p = true at hp
    rw [own_open] at hp
    simp at hp
  | succ i ih =>
    intro p hp
    have ih := ih (by omega)
    change (turnS r W nd G n true i (it (turnS r W nd G n true) (ownL r W nd G) i)).2.2.2.testBit p = true at hp
    show (turnS r W nd G n true i (it (turnS r W nd G n true) (ownL r W nd G) i)).1 p = -1 ∧ _
    generalize it (turnS r W nd G n true) (ownL r W nd G) i = s at *
    unfold turnS at hp ⊢
    split at hp
    · rename_i c
      rw [if_pos c]
      cases hb : nearF s.2.2.1 (dsR r i) (reR r) (stR r) G with
      | none =>
        rw [hb] at hp
        change (s.2.2.2 ||| 2 ^ i).testBit p = true at hp
        rw [Nat.testBit_or, Nat.testBit_two_pow, Bool.or_eq_true] at hp
        rcases hp with hp | hp
        · exact ⟨(ih p hp).1, by have := (ih p hp).2.1; omega, (ih p hp).2.2⟩
        · have e : i = p := of_decide_eq_true hp
          subst e
          exact ⟨c.2.1, by omega, of_decide_eq_true c.2.2⟩
      | some g =>
        rw [hb] at hp
        change s.2.2.2.testBit p = true at hp
        have q := ih p hp
        refine ⟨?_, by omega, q.2.2⟩
        show pu s.1 i (nI g) p = -1
        unfold pu
        rw [if_neg (by omega)]
        exact q.1
    · rename_i c
      rw [if_neg c]
      have q := ih p hp
      exact ⟨q.1, by omega, q.2.2⟩
theorem op_2 {i : Nat} (hi : i ≤ 8) (hs : ∀ p, s.2.2.2.testBit p = true → s.1 p = -1 ∧ nI n < r (26 + 9 * p)) : ∀ p, (it (turnS r W nd G n false) s i).2.2.2.testBit p = true → (it (turnS r W nd G n false) s i).1 p = -1 ∧ (p < i ∨ nI n < r (26 + 9 * p)) := by
  induction i with
  | zero => exact fun p hp => ⟨(hs p hp).1, Or.inr (hs p hp).2⟩
  | succ i ih =>
    intro p hp
    have ih := ih (by omega)
    change (turnS r W nd G n false i (it (turnS r W nd G n false) s i)).2.2.2.testBit p = true at hp
    show (turnS r W nd G n false i (it (turnS r W nd G n false) s i)).1 p = -1 ∧ _
    generalize it (turnS r W nd G n false) s i = s at *
    unfold turnS at hp ⊢
    split at hp
    · rename_i c
      rw [if_pos c]
      cases hb : nearF s.2.2.1 (dsR r i) (reR r) (stR r) G with
      | none =>
        rw [hb] at hp
        change (s.2.2.2 ||| 2 ^ i).testBit p = true at hp
        rw [Nat.testBit_or, Nat.testBit_two_pow, Bool.or_eq_true] at hp
        rcases hp with hp | hp
        · refine ⟨(ih p hp).1, ?_⟩
          rcases (ih p hp).2 with z | z
          · left; omega
          · exact Or.inr z
        · have e : i = p := of_decide_eq_true hp
          subst e
          exact ⟨c.2.1, by left; omega⟩
      | some g =>
        rw [hb] at hp
        change s.2.2.2.testBit p = true at hp
        have q := ih p hp
        have ne : ¬ p = i := by
          intro z
          subst z
          rcases q.2 with z | z
          · omega
          · exact absurd z (of_decide_eq_false c.2.2)
        refine ⟨?_, ?_⟩
        · show pu s.1 i (nI g) p = -1
          unfold pu
          rw [if_neg ne]
          exact q.1
        · rcases q.2 with z | z
          · left; omega
          · exact Or.inr z
    · rename_i c
      rw [if_neg c]
      have q := ih p hp
      refine ⟨q.1, ?_⟩
      rcases q.2 with z | z
      · left; omega
      · exact Or.inr z
theorem open_who {p : Nat} (hP : P ≤ 8) (h : (lookL r W nd P G n).2.2.2.testBit p = true) : (lookL r W nd P G n).1 p = -1 :=
  (op_2 (s := it (turnS r W nd G n true) (ownL r W nd G) P) hP (fun p hp => ⟨(op_1 hP p hp).1, (op_1 hP p hp).2.2⟩) p h).1
end
theorem goS_pl {s : LK} {n p k : Nat} {r : Rw} (hk : k < 93) (h1 : ¬ k = 28 + 9 * p) (h2 : ¬ k = 29 + 9 * p) (h3 : ¬ k = 23 + 9 * p) (h4 : ¬ k = 25 + 9 * p) : goS s n p r k = r k := by
  have e : noteR r p (s.1 p) (s.2.1 p) (nI n) k = r k := by
    unfold noteR
    rw [if_neg h1, if_neg h2, if_neg (fun z => h3 z.1), if_neg (fun z => h4 z.1)]
  unfold goS
  split
  · exact e
  · rw [payR_lo hk]; exact e
theorem itS_pl {s : LK} {n k : Nat} {r : Rw} (hk : k < 93) (h : ∀ p, ¬ k = 28 + 9 * p ∧ ¬ k = 29 + 9 * p ∧ ¬ k = 23 + 9 * p ∧ ¬ k = 25 + 9 * p) : ∀ {i : Nat}, it (goS s n) r i k = r k
  | 0 => rfl
  | i + 1 => (goS_pl hk (h i).1 (h i).2.1 (h i).2.2.1 (h i).2.2.2).trans (itS_pl hk h)
section
variable {r : Rw} {H P G n : Nat}
theorem goR_ok (ok : rowOK r H P G n) (hn9 : n + 1 < 20000) : rowOK (goR r H P G n) H P G (n + 1) := by
  obtain ⟨a1, a2, a3, a4, a5, a6, a7, a8, a9, a10, a11⟩ := ok
  have e : ∀ k, ¬ k = 0 → ¬ k = 1 → ¬ k = 5 → ¬ k = 6 → ¬ k = 7 → goR r H P G n k = it (goS (goL r H P G n) n) r P k := by
    intro k h0 h1 h5 h6 h7
    unfold goR
    rw [if_neg h0, if_neg h1, if_neg h5, if_neg h6, if_neg h7]
  refine ⟨a1, a2, a3, hn9, rfl, rfl, ?_, ?_, ?_, fun p hp => ?_, fun g hg => ?_⟩
  · rw [e 2 (by omega) (by omega) (by omega) (by omega) (by omega), it_goS_lo (by omega)]; exact a7
  · rw [e 3 (by omega) (by omega) (by omega) (by omega) (by omega), it_goS_lo (by omega)]; exact a8
  · rw [e 4 (by omega) (by omega) (by omega) (by omega) (by omega), it_goS_lo (by omega)]; exact a9
  · rw [e _ (by omega) (by omega) (by omega) (by omega) (by omega), itS_pl (by omega) (fun q => ⟨by omega, by omega, by omega, by omega⟩)]; exact a10 p hp
  · have q := itS_at (s := goL r H P G n) (n := n) (r := r) (j := g) (k := 0) (by omega) (fun f p pl => gSt0) a2
    rw [Nat.add_zero] at q
    rw [e _ (by omega) (by omega) (by omega) (by omega) (by omega), q]; exact a11 g hg
theorem goN_mx (ok : rowOK r H P G n) : ∀ {k : Nat}, n + k < 20000 → rowOK (goN r H P G n k) H P G (n + k)
  | 0, _ => ok
  | k + 1, hk => goR_ok (goN_mx ok (by omega)) (by omega)
theorem gR0 {g : Nat} : gRow r g 0 = r (93 + 9 * g) := rfl
theorem gR1 {g : Nat} : gRow r g 1 = r (94 + 9 * g) := congrArg r (by omega)
theorem gR2 {g : Nat} : gRow r g 2 = r (95 + 9 * g) := congrArg r (by omega)
theorem gR3 {g : Nat} : gRow r g 3 = r (96 + 9 * g) := congrArg r (by omega)
theorem gR4 {g : Nat} : gRow r g 4 = r (97 + 9 * g) := congrArg r (by omega)
theorem gR5 {g : Nat} : gRow r g 5 = r (98 + 9 * g) := congrArg r (by omega)
theorem gR6 {g : Nat} : gRow r g 6 = r (99 + 9 * g) := congrArg r (by omega)
theorem gR7 {g : Nat} : gRow r g 7 = r (100 + 9 * g) := congrArg r (by omega)
theorem gR8 {g : Nat} : gRow r g 8 = r (101 + 9 * g) := congrArg r (by omega)
theorem popc_msk10 {q : Nat → Bool} {i : Nat} (hi : i < 10) : popc (msk q (i + 1)) = popc (msk q i) + b2n (q i) := by
  have : i = 0 ∨ i = 1 ∨ i = 2 ∨ i = 3 ∨ i = 4 ∨ i = 5 ∨ i = 6 ∨ i = 7 ∨ i = 8 ∨ i = 9 := by omega
  rcases this with e | e | e | e | e | e | e | e | e | e <;> subst e <;> simp only [popc, msk_bit, Nat.reduceLT, Nat.reduceAdd, decide_true, decide_false, Bool.true_and, Bool.false_and, Nat.lt_irrefl, Nat.not_lt_zero] <;> simp only [b2n, Bool.false_eq_true, if_false] <;> omega
theorem sick_sum {d : Int32} : ∀ {k : Nat}, k ≤ 10 → it (fun g a => a + gAbout (gRow r g) d 6) (nI 0) k = nI k - nI (popc (msk (wl r d) k)) ∧ popc (msk (wl r d) k) ≤ k
  | 0, _ => ⟨by simp [it, msk, popc, b2n]; decide, by simp [msk, popc, b2n]⟩
  | k + 1, hk => by
    obtain ⟨h1, h2⟩ := sick_sum (k := k) (by omega)
    have e := popc_msk10 (q := wl r d) (i := k) (by omega)
    have e2 : it (fun g a => a + gAbout (gRow r g) d 6) (nI 0) (k + 1) = it (fun g a => a + gAbout (gRow r g) d 6) (nI 0) k + gAbout (gRow r k) d 6 := rfl
    have e3 : gAbout (gRow r k) d 6 = if d < r (99 + 9 * k) then nI 1 else nI 0 := by
      show (if d < gRow r k 6 then nI 1 else nI 0) = _
      rw [gR6]
    rw [e2, h1, e3, e]
    by_cases c : d < r (99 + 9 * k)
    · have w : wl r d k = false := by unfold wl; simp [c]
      rw [w, if_pos c]
      refine ⟨?_, by simp [b2n]; omega⟩
      rw [nI_sub h2, nI_add, show b2n false = 0 from rfl, Nat.add_zero, nI_sub (by omega)]
      congr 1
      omega
    · have w : wl r d k = true := by unfold wl; simp [c]
      rw [w, if_neg c]
      refine ⟨?_, by simp [b2n]; omega⟩
      rw [nI_sub h2, nI_add, show b2n true = 1 from rfl, nI_sub (by omega)]
      congr 1
      omega
end
