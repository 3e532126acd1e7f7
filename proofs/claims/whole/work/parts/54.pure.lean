/-! PURE: rows that agree; who is at an open post -/
def agr (r r' : Rw) : Prop := ∀ k, k < 183 → r' k = r k
def SimL (s s' : LK) (G : Nat) : Prop := s'.1 = s.1 ∧ s'.2.1 = s.2.1 ∧ s'.2.2.2 = s.2.2.2 ∧ ∀ g, g < G → s'.2.2.1 g = s.2.2.1 g
section
variable {r r' : Rw} {H P G n : Nat} {W W' nd nd' : Nat → Bool} {s s' : LK}
theorem ahead_congr {ds ds' st st' : Rw} {g : Nat} {q : Option Nat} (h2 : ds' g = ds g) (h4 : st' g = st g) (hq : ∀ k, q = some k → ds' k = ds k ∧ st' k = st k) : ahead ds' st' g q = ahead ds st g q := by
  cases q with
  | none => rfl
  | some k =>
    have e := hq k rfl
    show decide (ds' g < ds' k ∨ ds' g = ds' k ∧ st' g < st' k) = decide (ds g < ds k ∨ ds g = ds k ∧ st g < st k)
    rw [h2, h4, e.1, e.2]
theorem nearF_succ {free : Nat → Bool} {ds re st : Rw} {i : Nat} : nearF free ds re st (i + 1) = if free i = true ∧ ¬ re i < ds i ∧ ahead ds st i (nearF free ds re st i) = true then some i else nearF free ds re st i := rfl
theorem nearF_congr {free free' : Nat → Bool} {ds ds' re re' st st' : Rw} (h1 : ∀ g, g < G → free' g = free g) (h2 : ∀ g, g < G → ds' g = ds g) (h3 : ∀ g, g < G → re' g = re g) (h4 : ∀ g, g < G → st' g = st g) {i : Nat} (hi : i ≤ G) : nearF free' ds' re' st' i = nearF free ds re st i := by
  induction i with
  | zero =>
    have e1 : nearF free' ds' re' st' 0 = none := rfl
    have e2 : nearF free ds re st 0 = none := rfl
    rw [e1, e2]
  | succ i ih =>
    have ih := ih (by omega)
    rw [nearF_succ, nearF_succ, ih, h1 i (by omega), h3 i (by omega), ahead_congr (h2 i (by omega)) (h4 i (by omega)) (fun k hk => by have := (nearF_lt hk).1; exact ⟨h2 k (by omega), h4 k (by omega)⟩), h2 i (by omega)]
theorem own_sim (hG : G ≤ 10) (hP : P ≤ 8) (a : ∀ g, g < G → r' (95 + 9 * g) = r (95 + 9 * g)) (hO : ownOK r P G) (hW : ∀ g, g < G → W' g = W g) (hn : ∀ p, p < 8 → nd' p = nd p) : ∀ {i : Nat}, i ≤ G → SimL (ownL r W nd i) (ownL r' W' nd' i) G
  | 0, _ => ⟨rfl, rfl, rfl, hW⟩
  | i + 1, hi => by
    have ih := own_sim hG hP a hO hW hn (i := i) (by omega)
    obtain ⟨i1, i2, i3, i4⟩ := ih
    show SimL (ownS r W nd i (ownL r W nd i)) (ownS r' W' nd' i (ownL r' W' nd' i)) G
    unfold ownS
    rw [a i (by omega), hW i (by omega)]
    have en : ¬ r (95 + 9 * i) = -1 → nd' (r (95 + 9 * i)).toNatClampNeg = nd (r (95 + 9 * i)).toNatClampNeg := by
      intro hne
      obtain ⟨q, hq, e⟩ := (hO i (by omega)).resolve_left hne
      rw [e, idxN (by omega)]
      exact hn q (by omega)
    by_cases c : ¬ r (95 + 9 * i) = -1 ∧ W i = true ∧ nd (r (95 + 9 * i)).toNatClampNeg = true
    · rw [if_pos c, if_pos ⟨c.1, c.2.1, by rw [en c.1]; exact c.2.2⟩]
      refine ⟨?_, i2, i3, fun g hg => ?_⟩
      · show pu _ _ _ = pu _ _ _
        rw [i1]
      · show pb _ i false g = pb _ i false g
        unfold pb
        by_cases cg : g = i
        · rw [if_pos cg, if_pos cg]
        · rw [if_neg cg, if_neg cg]; exact i4 g hg
    · rw [if_neg c, if_neg (fun z => c ⟨z.1, z.2.1, by rw [← en z.1]; exact z.2.2⟩)]
      exact ⟨i1, i2, i3, i4⟩
theorem turn_sim {t : Bool} {p : Nat} (hp : p < 8) (a1 : ∀ g, g < G → r' (93 + 9 * g) = r (93 + 9 * g) ∧ r' (94 + 9 * g) = r (94 + 9 * g) ∧ r' (96 + 9 * g) = r (96 + 9 * g)) (a2 : r' (21 + 9 * p) = r (21 + 9 * p)) (a3 : r' (26 + 9 * p) = r (26 + 9 * p)) (hW : ∀ g, g < G → W' g = W g) (hn : ∀ p, p < 8 → nd' p = nd p) (h : SimL s s' G) : SimL (turnS r W nd G n t p s) (turnS r' W' nd' G n t p s') G := by
  obtain ⟨i1, i2, i3, i4⟩ := h
  unfold turnS
  rw [hn p hp, a3, i1]
  have en : nearF s'.2.2.1 (dsR r' p) (reR r') (stR r') G = nearF s.2.2.1 (dsR r p) (reR r) (stR r) G := by
    refine nearF_congr (G := G) i4 (fun g hg => ?_) (fun g hg => (a1 g hg).2.1) (fun g hg => (a1 g hg).2.2) (Nat.le_refl G)
    unfold dsR
    rw [(a1 g hg).1, a2]
  rw [en]
  split
  · generalize nearF s.2.2.1 (dsR r p) (reR r) (stR r) G = b
    cases b with
    | none =>
      have er : rsn W' s'.2.2.1 G = rsn W s.2.2.1 G := by
        unfold rsn
        rw [msk_congr hW, msk_congr i4]
      refine ⟨i1, ?_, ?_, i4⟩
      · show pu _ p _ = pu _ p _
        rw [i2, er]
      · show _ ||| _ = _ ||| _
        rw [i3]
    | some k =>
      refine ⟨?_, i2, i3, fun g hg => ?_⟩
      · show pu _ p _ = pu _ p _
        rw [i1]
      · show pb _ k false g = pb _ k false g
        unfold pb
        by_cases cg : g = k
        · rw [if_pos cg, if_pos cg]
        · rw [if_neg cg, if_neg cg]; exact i4 g hg
  · exact ⟨i1, i2, i3, i4⟩
theorem it_sim {t : Bool} (hP : P ≤ 8) (a1 : ∀ g, g < G → r' (93 + 9 * g) = r (93 + 9 * g) ∧ r' (94 + 9 * g) = r (94 + 9 * g) ∧ r' (96 + 9 * g) = r (96 + 9 * g)) (a2 : ∀ p, p < P → r' (21 + 9 * p) = r (21 + 9 * p) ∧ r' (26 + 9 * p) = r (26 + 9 * p)) (hW : ∀ g, g < G → W' g = W g) (hn : ∀ p, p < 8 → nd' p = nd p) (h : SimL s s' G) : ∀ {i : Nat}, i ≤ P → SimL (it (turnS r W nd G n t) s i) (it (turnS r' W' nd' G n t) s' i) G
  | 0, _ => h
  | i + 1, hi => turn_sim (by omega) a1 (a2 i (by omega)).1 (a2 i (by omega)).2 hW hn (it_sim hP a1 a2 hW hn h (by omega))
theorem look_sim (hG : G ≤ 10) (hP : P ≤ 8) (a0 : ∀ g, g < G → r' (95 + 9 * g) = r (95 + 9 * g)) (a1 : ∀ g, g < G → r' (93 + 9 * g) = r (93 + 9 * g) ∧ r' (94 + 9 * g) = r (94 + 9 * g) ∧ r' (96 + 9 * g) = r (96 + 9 * g)) (a2 : ∀ p, p < P → r' (21 + 9 * p) = r (21 + 9 * p) ∧ r' (26 + 9 * p) = r (26 + 9 * p)) (hO : ownOK r P G) (hW : ∀ g, g < G → W' g = W g) (hn : ∀ p, p < 8 → nd' p = nd p) : SimL (lookL r W nd P G n) (lookL r' W' nd' P G n) G :=
  it_sim hP a1 a2 hW hn (it_sim hP a1 a2 hW hn (own_sim hG hP a0 hO hW hn (Nat.le_refl G)) (Nat.le_refl P)) (Nat.le_refl P)
theorem look_agr {d : Int32} {d2 : Int32} (a : agr r r') (hG : G ≤ 10) (hP : P ≤ 8) (hH : H ≤ 6) (hO : ownOK r P G) : SimL (lookL r (wl r d) (nee r H d d2) P G n) (lookL r' (wl r' d) (nee r' H d d2) P G n) G := by
  refine look_sim hG hP (fun g hg => a _ (by omega)) (fun g hg => ⟨a _ (by omega), a _ (by omega), a _ (by omega)⟩) (fun p hp => ⟨a _ (by omega), a _ (by omega)⟩) hO (fun g hg => ?_) (fun p hp => ?_)
  · unfold wl
    rw [a _ (by omega)]
  · exact nee_congr hH (fun k h1 h2 => a k (by omega)) (a _ (by omega))
theorem opD_agr {d : Int32} (a : agr r r') (hG : G ≤ 10) (hP : P ≤ 8) (hH : H ≤ 6) (hO : ownOK r P G) : opD r' d H P G n = opD r d H P G n := by
  unfold opD opn
  rw [(look_agr (d2 := nI 0) a hG hP hH hO).2.2.1, (look_agr (d2 := nI 1) a hG hP hH hO).2.2.1]
theorem note_agr {w y se : Int32} {p : Nat} (hp : p < 8) (a : agr r r') : agr (noteR r p w y se) (noteR r' p w y se) := by
  intro k hk
  unfold noteR
  rw [a _ hk, a (23 + 9 * p) (by omega)]
theorem pay_agr {g p : Nat} (hp : p < 8) (hg : g < 10) (a : agr r r') : agr (payR r g p) (payR r' g p) := by
  intro k hk
  unfold payR
  rw [a _ hk, a (21 + 9 * p) (by omega)]
  by_cases c : 93 + 9 * g ≤ k ∧ k < 102 + 9 * g
  · rw [if_pos c, if_pos c]
    have e : ∀ j, j < 9 → (fun f => r' (93 + 9 * g + f)) j = (fun f => r (93 + 9 * g + f)) j := fun j hj => a _ (by omega)
    have hj : k - (93 + 9 * g) < 9 := by omega
    generalize k - (93 + 9 * g) = j at hj
    generalize (fun f => r' (93 + 9 * g + f)) = f' at e
    generalize (fun f => r (93 + 9 * g + f)) = f at e
    unfold gSt
    rw [e 0 (by omega), e 2 (by omega), e 3 (by omega), e 4 (by omega), e 5 (by omega), e 7 (by omega), e 8 (by omega), e j hj]
  · rw [if_neg c, if_neg c]
theorem goS_agr {p : Nat} (hp : p < 8) (hG : G ≤ 10) (h : SimL s s' G) (w : whoOK s G) (a : agr r r') : agr (goS s n p r) (goS s' n p r') := by
  unfold goS
  rw [h.1, h.2.1]
  split
  · exact note_agr hp a
  · rename_i c
    obtain ⟨g, hg, e⟩ := (w.1 p).resolve_left c
    rw [e, idxN (by omega)]
    exact pay_agr hp (by omega) (note_agr hp a)
theorem itS_agr (hG : G ≤ 10) (h : SimL s s' G) (w : whoOK s G) (a : agr r r') : ∀ {i : Nat}, i ≤ 8 → agr (it (goS s n) r i) (it (goS s' n) r' i)
  | 0, _ => a
  | i + 1, hi => goS_agr (by omega) hG h w (itS_agr hG h w a (by omega))
theorem goL_agr (a : agr r r') (hG : G ≤ 10) (hP : P ≤ 8) (hH : H ≤ 6) (hO : ownOK r P G) : SimL (goL r H P G n) (goL r' H P G n) G := look_agr a hG hP hH hO
theorem goR_agr (a : agr r r') (hG : G ≤ 10) (hP : P ≤ 8) (hH : H ≤ 6) (hO : ownOK r P G) : agr (goR r H P G n) (goR r' H P G n) := by
  intro k hk
  have l := goL_agr (n := n) a hG hP hH hO
  have e1 : sch r' (nI (n / 2)) H = sch r (nI (n / 2)) H := sch_congr9 hH (fun k h1 h2 => a k (by omega))
  have e2 : msk (nee r' H (nI (n / 2)) (nI (n % 2))) P = msk (nee r H (nI (n / 2)) (nI (n % 2))) P := msk_congr (fun p hp => nee_congr hH (fun k h1 h2 => a k (by omega)) (a _ (by omega)))
  unfold goR
  rw [e1, e2, l.2.2.1, a 5 (by omega), a 6 (by omega), a 7 (by omega), itS_agr hG l (who_look hP) a hP k hk]
theorem goN_agr (a : agr r r') (hG : G ≤ 10) (hP : P ≤ 8) (hH : H ≤ 6) (hO : ownOK r P G) : ∀ k, agr (goN r H P G n k) (goN r' H P G n k)
  | 0 => a
  | k + 1 => goR_agr (goN_agr a hG hP hH hO k) hG hP hH (goN_own hP hO k)
theorem goNL_agr (a : agr r r') (hG : G ≤ 10) (hP : P ≤ 8) (hH : H ≤ 6) (hO : ownOK r P G) (k : Nat) : (goL (goN r' H P G n k) H P G (n + k)).2.2.2 = (goL (goN r H P G n k) H P G (n + k)).2.2.2 := (goL_agr (goN_agr a hG hP hH hO k) hG hP hH (goN_own hP hO k)).2.2.1
/-! nobody stands at an open post -/
theorem own_open {i : Nat} : (ownL r W nd i).2.2.2 = 0 := by
  induction i with
  | zero => rfl
  | succ i ih =>
    show (ownS r W nd i (ownL r W nd i)).2.2.2 = 0
    unfold ownS
    split <;> exact ih
theorem op_1 {i : Nat} (hi : i ≤ 8) : ∀ p, (it (turnS r W nd G n true) (ownL r W nd G) i).2.2.2.testBit p = true → (it (turnS r W nd G n true) (ownL r W nd G) i).1 p = -1 ∧ p < i ∧ nI n < r (26 + 9 * p) := by
  induction i with
  | zero =>
    intro p hp
    change (ownL r W nd G).2.2.2.testBit p = true at hp
    rw [own_open] at hp
    simp at hp
  | succ i ih =>
    intro p hp
    have ih := ih (by omega)
    change (turnS r W nd G n true i (it (turnS r W nd G n true) (ownL r W nd G) i)).2.2.2.testBit p = true at hp
    show (turnS r W nd G n true i (it (turnS r W nd G n true) (ownL r W nd G) i)).1 p = -1 ∧ _
    generalize it (turnS r W nd G n true) (ownL r W nd G) i = s at *
    unfold turnS at hp ⊢
    split at hp
    · rename_i c
      rw [if_pos c]
      cases hb : nearF s.2.2.1 (dsR r i) (reR r) (stR r) G with
      | none =>
        rw [hb] at hp
        change (s.2.2.2 ||| 2 ^ i).testBit p = true at hp
        rw [Nat.testBit_or, Nat.testBit_two_pow, Bool.or_eq_true] at hp
        rcases hp with hp | hp
        · exact ⟨(ih p hp).1, by have := (ih p hp).2.1; omega, (ih p hp).2.2⟩
        · have e : i = p := of_decide_eq_true hp
          subst e
          exact ⟨c.2.1, by omega, of_decide_eq_true c.2.2⟩
      | some g =>
        rw [hb] at hp
        change s.2.2.2.testBit p = true at hp
        have q := ih p hp
        refine ⟨?_, by omega, q.2.2⟩
        show pu s.1 i (nI g) p = -1
        unfold pu
        rw [if_neg (by omega)]
        exact q.1
    · rename_i c
      rw [if_neg c]
      have q := ih p hp
      exact ⟨q.1, by omega, q.2.2⟩
theorem op_2 {i : Nat} (hi : i ≤ 8) (hs : ∀ p, s.2.2.2.testBit p = true → s.1 p = -1 ∧ nI n < r (26 + 9 * p)) : ∀ p, (it (turnS r W nd G n false) s i).2.2.2.testBit p = true → (it (turnS r W nd G n false) s i).1 p = -1 ∧ (p < i ∨ nI n < r (26 + 9 * p)) := by
  induction i with
  | zero => exact fun p hp => ⟨(hs p hp).1, Or.inr (hs p hp).2⟩
  | succ i ih =>
    intro p hp
    have ih := ih (by omega)
    change (turnS r W nd G n false i (it (turnS r W nd G n false) s i)).2.2.2.testBit p = true at hp
    show (turnS r W nd G n false i (it (turnS r W nd G n false) s i)).1 p = -1 ∧ _
    generalize it (turnS r W nd G n false) s i = s at *
    unfold turnS at hp ⊢
    split at hp
    · rename_i c
      rw [if_pos c]
      cases hb : nearF s.2.2.1 (dsR r i) (reR r) (stR r) G with
      | none =>
        rw [hb] at hp
        change (s.2.2.2 ||| 2 ^ i).testBit p = true at hp
        rw [Nat.testBit_or, Nat.testBit_two_pow, Bool.or_eq_true] at hp
        rcases hp with hp | hp
        · refine ⟨(ih p hp).1, ?_⟩
          rcases (ih p hp).2 with z | z
          · left; omega
          · exact Or.inr z
        · have e : i = p := of_decide_eq_true hp
          subst e
          exact ⟨c.2.1, by left; omega⟩
      | some g =>
        rw [hb] at hp
        change s.2.2.2.testBit p = true at hp
        have q := ih p hp
        have ne : ¬ p = i := by
          intro z
          subst z
          rcases q.2 with z | z
          · omega
          · exact absurd z (of_decide_eq_false c.2.2)
        refine ⟨?_, ?_⟩
        · show pu s.1 i (nI g) p = -1
          unfold pu
          rw [if_neg ne]
          exact q.1
        · rcases q.2 with z | z
          · left; omega
          · exact Or.inr z
    · rename_i c
      rw [if_neg c]
      have q := ih p hp
      refine ⟨q.1, ?_⟩
      rcases q.2 with z | z
      · left; omega
      · exact Or.inr z
theorem open_who {p : Nat} (hP : P ≤ 8) (h : (lookL r W nd P G n).2.2.2.testBit p = true) : (lookL r W nd P G n).1 p = -1 :=
  (op_2 (s := it (turnS r W nd G n true) (ownL r W nd G) P) hP (fun p hp => ⟨(op_1 hP p hp).1, (op_1 hP p hp).2.2⟩) p h).1
end
