/-! WHAT HOLDS OF EVERY STATE -/
theorem complR_hi {r : Rw} {p n k : Nat} (hp : p < 8) (hk : 93 ≤ k) : complR r p n k = r k := by
  unfold complR
  rw [if_neg (by omega), if_neg (by omega), if_neg (by omega), if_neg (by omega)]
def Iv0 (r : Rw) (P G n B : Nat) : Prop := ownOK r P G ∧ uniq r G ∧ stepOK r G ∧ r 7 = sumP r 23 P ∧ r 8 = sumP r 24 P ∧ (∃ t, t ≤ 8 * n ∧ r 6 = nI t) ∧ cBd r P B
def Iv (s : SvT) (B : Nat) : Prop := Iv0 s.1 s.2.2.1 s.2.2.2.1 s.2.2.2.2 B ∧ s.2.2.2.2 ≤ 6002
section
variable {r r' : Rw} {H P G n B B' : Nat} {W nd : Nat → Bool}
theorem sumP_congr {c : Nat} (e : ∀ p, p < P → r' (c + 9 * p) = r (c + 9 * p)) : sumP r' c P = sumP r c P := it_congr (fun p s hp => by rw [e p hp])
theorem Iv0.to (h : Iv0 r P G n B) (e0 : ∀ k, (k = 6 ∨ k = 7 ∨ k = 8) → r' k = r k) (e1 : ∀ p, p < P → r' (23 + 9 * p) = r (23 + 9 * p) ∧ r' (24 + 9 * p) = r (24 + 9 * p)) (e2 : ∀ g, g < G → r' (95 + 9 * g) = r (95 + 9 * g) ∧ r' (96 + 9 * g) = r (96 + 9 * g)) (hB : B ≤ B') : Iv0 r' P G n B' := by
  obtain ⟨a1, a2, a3, a4, a5, ⟨t, a6, a7⟩, a8⟩ := h
  refine ⟨fun g hg => by rw [(e2 g hg).1]; exact a1 g hg, fun g k hg hk => by rw [(e2 g hg).1, (e2 k hk).1]; exact a2 g k hg hk, fun g hg => by rw [(e2 g hg).2]; exact a3 g hg, ?_, ?_, ⟨t, a6, by rw [e0 6 (by omega)]; exact a7⟩, fun p hp => ?_⟩
  · rw [e0 7 (by omega), sumP_congr (fun p hp => (e1 p hp).1)]; exact a4
  · rw [e0 8 (by omega), sumP_congr (fun p hp => (e1 p hp).2)]; exact a5
  · obtain ⟨c, hc, ec⟩ := a8 p hp
    exact ⟨c, by omega, by rw [(e1 p hp).2]; exact ec⟩
theorem Iv_hol {x y : Int32} (h : Iv0 r P G n B) (hH : H < 6) : Iv0 (holR r H x y) P G n B := by
  have e : ∀ k, ¬ k = 9 + 2 * H → ¬ k = 10 + 2 * H → ¬ k = 2 → holR r H x y k = r k := by
    intro k h1 h2 h3
    unfold holR
    rw [if_neg h1, if_neg h2, if_neg h3]
  exact h.to (fun k hk => e k (by omega) (by omega) (by omega)) (fun p hp => ⟨e _ (by omega) (by omega) (by omega), e _ (by omega) (by omega) (by omega)⟩) (fun g hg => ⟨e _ (by omega) (by omega) (by omega), e _ (by omega) (by omega) (by omega)⟩) (Nat.le_refl B)
theorem sumP_succ {c : Nat} : sumP r c (P + 1) = sumP r c P + r (c + 9 * P) := rfl
theorem Iv_post {x y : Int32} (h : Iv0 r P G n B) (hP : P < 8) : Iv0 (postR r P x y) (P + 1) G n B := by
  have e : ∀ k, ¬ (21 + 9 * P ≤ k ∧ k < 30 + 9 * P) → ¬ k = 3 → postR r P x y k = r k := by
    intro k h1 h3
    unfold postR
    rw [if_neg h1, if_neg h3]
  have n2 : postR r P x y (23 + 9 * P) = nI 0 := by
    unfold postR
    rw [if_pos ⟨by omega, by omega⟩, show 23 + 9 * P - (21 + 9 * P) = 2 by omega]
    rfl
  have n3 : postR r P x y (24 + 9 * P) = nI 0 := by
    unfold postR
    rw [if_pos ⟨by omega, by omega⟩, show 24 + 9 * P - (21 + 9 * P) = 3 by omega]
    rfl
  have z : ∀ v : Int32, v + nI 0 = v := fun v => Int32.add_zero v
  obtain ⟨a1, a2, a3, a4, a5, a6, a8⟩ := h.to (r' := postR r P x y) (B' := B) (fun k hk => e k (by omega) (by omega)) (fun p hp => ⟨e _ (by omega) (by omega), e _ (by omega) (by omega)⟩) (fun g hg => ⟨e _ (by omega) (by omega), e _ (by omega) (by omega)⟩) (Nat.le_refl B)
  refine ⟨fun g hg => ?_, a2, a3, ?_, ?_, a6, fun p hp => ?_⟩
  · rcases a1 g hg with z | ⟨q, hq, z⟩
    · exact Or.inl z
    · exact Or.inr ⟨q, by omega, z⟩
  · rw [sumP_succ, n2, z]; exact a4
  · rw [sumP_succ, n3, z]; exact a5
  · by_cases c : p = P
    · subst c
      exact ⟨0, by omega, n3⟩
    · exact a8 p (by omega)
theorem Iv_pu {k : Nat} {v : Int32} (h : Iv0 r P G n B) (h1 : ¬ k = 6) (h2 : ¬ k = 7) (h3 : ¬ k = 8) (h4 : ∀ p, ¬ k = 23 + 9 * p ∧ ¬ k = 24 + 9 * p ∨ 93 ≤ k) (h5 : ∀ g, ¬ k = 95 + 9 * g ∧ ¬ k = 96 + 9 * g) (hP : P ≤ 8) : Iv0 (pu r k v) P G n B := by
  have e : ∀ j, ¬ j = k → pu r k v j = r j := fun j hj => if_neg hj
  refine h.to (fun j hj => e j (by omega)) (fun p hp => ?_) (fun g hg => ⟨e _ (fun z => (h5 g).1 z.symm), e _ (fun z => (h5 g).2 z.symm)⟩) (Nat.le_refl B)
  rcases h4 p with z | z
  · exact ⟨e _ (fun q => z.1 q.symm), e _ (fun q => z.2 q.symm)⟩
  · exact ⟨e _ (by omega), e _ (by omega)⟩
theorem ownerF_no {x : Int32} : ∀ {G : Nat}, G < 1000 → ownerF r x G = -1 → ∀ g, g < G → ¬ r (95 + 9 * g) = x
  | 0, _, _, g, hg => absurd hg (Nat.not_lt_zero _)
  | G + 1, hG, h, g, hg => by
    change (if r (95 + 9 * G) = x then nI G else ownerF r x G) = -1 at h
    split at h
    · rw [nI_eqm (by omega)] at h
      exact h.elim
    · rename_i c
      by_cases e : g = G
      · rw [e]; exact c
      · exact ownerF_no (by omega) h g (by omega)
theorem ownerF_is {x : Int32} {g : Nat} (hu : uniq r G) (hg : g < G) (e : r (95 + 9 * g) = x) (hx : ¬ x = -1) : ownerF r x G = nI g :=
  ownerF_at e hg (fun k hk ek => (hu g k hg hk (by rw [e]; exact hx) (e.trans ek.symm)).symm)
theorem ownerF_own {x : Int32} {g : Nat} : ∀ {G : Nat}, G < 1000 → g < 1000 → ownerF r x G = nI g → g < G ∧ r (95 + 9 * g) = x
  | 0, _, hg, h => by
    change (-1 : Int32) = nI g at h
    exact absurd h.symm (ne_m1' hg)
  | G + 1, hG, hg, h => by
    change (if r (95 + 9 * G) = x then nI G else ownerF r x G) = nI g at h
    split at h
    · rename_i c
      rw [nI_eqN (by omega) (by omega)] at h
      subst h
      exact ⟨by omega, c⟩
    · have := ownerF_own (by omega) hg h
      exact ⟨by omega, this.2⟩
where ne_m1' {g : Nat} (hg : g < 1000) : ¬ nI g = -1 := by rw [nI_eqm (by omega)]; exact id
theorem inR_nat {x : Int32} (hP : P < 1000) (h : inR x P = true) : ∃ p, p < P ∧ x = nI p := by
  unfold inR at h
  rw [decide_eq_true_eq] at h
  by_cases z : P = 0
  · subst z
    have e : nI 0 - nI 1 = -1 := by decide
    rw [e] at h
    exact absurd (Int32.le_trans h.1 h.2) (by decide)
  · rw [nI_sub (by omega)] at h
    obtain ⟨d, _, d2, e⟩ := i32_rng (by omega) (by omega) h.1 h.2
    exact ⟨d, by omega, e⟩
theorem Iv_guard {x y w : Int32} (h : Iv0 r P G n B) (hG : G < 10) (hP : P ≤ 8) (hw : w = -1 ∨ inR w P = true) (h3 : w = -1 ∨ ownerF r w G = -1) : Iv0 (guardR r G x y w) P (G + 1) n B := by
  have e : ∀ k, ¬ (93 + 9 * G ≤ k ∧ k < 102 + 9 * G) → ¬ k = 4 → guardR r G x y w k = r k := by
    intro k h1 h3
    unfold guardR
    rw [if_neg (by omega), if_neg (by omega), if_neg (by omega), if_neg (by omega), if_neg h3]
  have n5 : guardR r G x y w (95 + 9 * G) = w := by
    unfold guardR
    rw [if_neg (by omega), if_neg (by omega), if_pos rfl]
  have n6 : guardR r G x y w (96 + 9 * G) = nI 0 := by
    unfold guardR
    rw [if_neg (by omega), if_neg (by omega), if_neg (by omega), if_pos ⟨by omega, by omega⟩]
  obtain ⟨a1, a2, a3, a4, a5, a6, a8⟩ := h.to (r' := guardR r G x y w) (B' := B) (fun k hk => e k (by omega) (by omega)) (fun p hp => ⟨e _ (by omega) (by omega), e _ (by omega) (by omega)⟩) (fun g hg => ⟨e _ (by omega) (by omega), e _ (by omega) (by omega)⟩) (Nat.le_refl B)
  have eo : ∀ g, g < G → guardR r G x y w (95 + 9 * g) = r (95 + 9 * g) := fun g hg => e _ (by omega) (by omega)
  have nw : ¬ w = -1 → ∀ g, g < G → ¬ guardR r G x y w (95 + 9 * g) = w := by
    intro hne g hg
    rw [eo g hg]
    exact ownerF_no (by omega) (h3.resolve_left hne) g hg
  refine ⟨fun g hg => ?_, fun g k hg hk hne heq => ?_, fun g hg => ?_, a4, a5, a6, a8⟩
  · by_cases c : g = G
    · subst c
      rw [n5]
      rcases hw with z | z
      · exact Or.inl z
      · obtain ⟨p, hp, ep⟩ := inR_nat (by omega) z
        exact Or.inr ⟨p, hp, ep⟩
    · exact a1 g (by omega)
  · by_cases c : g = G <;> by_cases d : k = G
    · omega
    · subst c
      rw [n5] at hne heq
      exact absurd heq.symm (nw hne k (by omega))
    · subst d
      rw [n5] at heq
      exact absurd heq (nw (by rw [← heq]; exact hne) g (by omega))
    · exact a2 g k (by omega) (by omega) hne heq
  · by_cases c : g = G
    · subst c
      exact ⟨0, by omega, n6⟩
    · exact a3 g (by omega)
theorem Iv_setPost {g : Nat} {w : Int32} (h : Iv0 r P G n B) (hG : G ≤ 10) (hP : P ≤ 8) (hg : g < G) (hw : w = -1 ∨ inR w P = true) (h3 : w = -1 ∨ ownerF r w G = -1 ∨ ownerF r w G = nI g) : Iv0 (pu r (95 + 9 * g) w) P G n B := by
  have e : ∀ j, ¬ j = 95 + 9 * g → pu r (95 + 9 * g) w j = r j := fun j hj => if_neg hj
  have n5 : pu r (95 + 9 * g) w (95 + 9 * g) = w := if_pos rfl
  obtain ⟨a1, a2, a3, a4, a5, ⟨t, a6, a7⟩, a8⟩ := h
  have nw : ¬ w = -1 → ∀ k, k < G → ¬ k = g → ¬ r (95 + 9 * k) = w := by
    intro hne k hk hkg z
    have e1 := ownerF_is a2 hk z hne
    rcases h3.resolve_left hne with q | q
    · rw [e1, nI_eqm (by omega)] at q
      exact q.elim
    · rw [e1, nI_eqN (by omega) (by omega)] at q
      exact hkg q
  refine ⟨fun k hk => ?_, fun k j hk hj hne heq => ?_, fun k hk => ?_, ?_, ?_, ⟨t, a6, by rw [e 6 (by omega)]; exact a7⟩, fun p hp => ?_⟩
  · by_cases c : k = g
    · subst c
      rw [n5]
      rcases hw with z | z
      · exact Or.inl z
      · obtain ⟨p, hp, ep⟩ := inR_nat (by omega) z
        exact Or.inr ⟨p, hp, ep⟩
    · rw [e _ (by omega)]; exact a1 k hk
  · by_cases c : k = g <;> by_cases d : j = g
    · omega
    · subst c
      rw [n5] at hne heq
      rw [e _ (by omega)] at heq
      exact absurd heq.symm (nw hne j hj d)
    · subst d
      rw [n5] at heq
      rw [e _ (by omega)] at hne heq
      exact absurd heq (nw (by rw [← heq]; exact hne) k hk c)
    · rw [e _ (by omega)] at hne heq
      rw [e _ (by omega)] at heq
      exact a2 k j hk hj hne heq
  · rw [e _ (by omega)]; exact a3 k hk
  · rw [e 7 (by omega), sumP_congr (fun p hp => e _ (by omega))]; exact a4
  · rw [e 8 (by omega), sumP_congr (fun p hp => e _ (by omega))]; exact a5
  · obtain ⟨c, hc, ec⟩ := a8 p hp
    exact ⟨c, hc, by rw [e _ (by omega)]; exact ec⟩
theorem sumP_one {c p : Nat} (hp : p < P) (e1 : r' (c + 9 * p) = r (c + 9 * p) + nI 1) (e : ∀ q, q < P → ¬ q = p → r' (c + 9 * q) = r (c + 9 * q)) : sumP r' c P = sumP r c P + nI 1 := by
  induction P with
  | zero => omega
  | succ k ih =>
    rw [sumP_succ, sumP_succ]
    by_cases cp : p = k
    · subst cp
      rw [e1, sumP_congr (fun q hq => e q (by omega) (by omega)), Int32.add_assoc]
    · rw [ih (by omega) (fun q hq hn => e q (by omega) hn), e k (by omega) (by omega), Int32.add_assoc, Int32.add_assoc, Int32.add_comm (nI 1)]
theorem Iv_compl {p : Nat} (h : Iv0 r P G n B) (hP : P ≤ 8) (hp : p < P) : Iv0 (complR r p n) P G n (B + 1) := by
  have e : ∀ j, ¬ j = 8 → ¬ j = 24 + 9 * p → ¬ j = 27 + 9 * p → ¬ j = 26 + 9 * p → complR r p n j = r j := by
    intro j h1 h2 h3 h4
    unfold complR
    rw [if_neg h1, if_neg h2, if_neg h3, if_neg h4]
  have n4 : complR r p n (24 + 9 * p) = r (24 + 9 * p) + nI 1 := by
    unfold complR
    rw [if_neg (by omega), if_pos rfl]
  obtain ⟨a1, a2, a3, a4, a5, ⟨t, a6, a7⟩, a8⟩ := h
  refine ⟨fun g hg => ?_, fun g k hg hk => ?_, fun g hg => ?_, ?_, ?_, ⟨t, a6, ?_⟩, fun q hq => ?_⟩
  · rw [complR_hi (by omega) (by omega)]; exact a1 g hg
  · rw [complR_hi (by omega) (by omega), complR_hi (by omega) (by omega)]; exact a2 g k hg hk
  · rw [complR_hi (by omega) (by omega)]; exact a3 g hg
  · rw [e 7 (by omega) (by omega) (by omega) (by omega), sumP_congr (fun q hq => e _ (by omega) (by omega) (by omega) (by omega))]; exact a4
  · rw [sumP_one hp n4 (fun q hq hn => e _ (by omega) (by omega) (by omega) (by omega)), ← a5]
    rfl
  · rw [e 6 (by omega) (by omega) (by omega) (by omega)]; exact a7
  · obtain ⟨c, hc, ec⟩ := a8 q hq
    by_cases cp : q = p
    · subst cp
      exact ⟨c + 1, by omega, by rw [n4, ec, nI_add]⟩
    · exact ⟨c, by omega, by rw [e _ (by omega) (by omega) (by omega) (by omega)]; exact ec⟩
theorem look_lt {s : LK} {t : Bool} (hs : s.2.2.2 < 2 ^ P) : ∀ {i : Nat}, i ≤ P → (it (turnS r W nd G n t) s i).2.2.2 < 2 ^ P
  | 0, _ => hs
  | i + 1, hi => by
    have ih := look_lt (t := t) hs (i := i) (by omega)
    show (turnS r W nd G n t i (it (turnS r W nd G n t) s i)).2.2.2 < 2 ^ P
    unfold turnS
    split
    · cases nearF _ _ _ _ G with
      | none => exact Nat.or_lt_two_pow ih (Nat.pow_lt_pow_right (by omega) (by omega))
      | some g => exact ih
    · exact ih
theorem goL_lt : (goL r H P G n).2.2.2 < 2 ^ P := look_lt (look_lt (by rw [own_open]; exact Nat.two_pow_pos _) (Nat.le_refl P)) (Nat.le_refl P)
theorem goS_23 {s : LK} {p q : Nat} (hp : p < 8) (hq : q < 8) : goS s n p r (23 + 9 * q) = if q = p ∧ ¬ s.2.1 p = nI 0 then r (23 + 9 * q) + nI 1 else r (23 + 9 * q) := by
  have e : noteR r p (s.1 p) (s.2.1 p) (nI n) (23 + 9 * q) = if q = p ∧ ¬ s.2.1 p = nI 0 then r (23 + 9 * q) + nI 1 else r (23 + 9 * q) := by
    unfold noteR
    rw [if_neg (by omega), if_neg (by omega)]
    by_cases c : q = p
    · subst c
      by_cases d : s.2.1 q = nI 0
      · rw [if_neg (fun z => z.2 d), if_neg (by omega), if_neg (fun z => z.2 d)]
      · rw [if_pos ⟨rfl, d⟩, if_pos ⟨rfl, d⟩]
    · rw [if_neg (by omega), if_neg (by omega), if_neg (fun z => c z.1)]
  unfold goS
  split
  · exact e
  · rw [payR_lo (by omega)]; exact e
theorem itS_23 {s : LK} {q : Nat} (hq : q < 8) : ∀ {i : Nat}, i ≤ 8 → it (goS s n) r i (23 + 9 * q) = if q < i ∧ ¬ s.2.1 q = nI 0 then r (23 + 9 * q) + nI 1 else r (23 + 9 * q)
  | 0, _ => by rw [if_neg (by omega)]; rfl
  | i + 1, hi => by
    have ih := itS_23 (s := s) hq (i := i) (by omega)
    show goS s n i (it (goS s n) r i) (23 + 9 * q) = _
    rw [goS_23 (by omega) hq, ih]
    by_cases c : q = i
    · subst c
      rw [if_neg (show ¬ (q < q ∧ _) by omega)]
      by_cases d : s.2.1 q = nI 0
      · rw [if_neg (fun z => z.2 d), if_neg (fun z => z.2 d)]
      · rw [if_pos ⟨rfl, d⟩, if_pos ⟨by omega, d⟩]
    · rw [if_neg (fun z => c z.1)]
      by_cases d : q < i ∧ ¬ s.2.1 q = nI 0
      · rw [if_pos d, if_pos ⟨by omega, d.2⟩]
      · rw [if_neg d, if_neg (fun z => d ⟨by omega, z.2⟩)]
theorem sum_open {s : LK} {k : Nat} (e : ∀ q, q < k → r' (23 + 9 * q) = if s.2.2.2.testBit q = true then r (23 + 9 * q) + nI 1 else r (23 + 9 * q)) (hk : k ≤ 8) : sumP r' 23 k = sumP r 23 k + nI (popc (msk s.2.2.2.testBit k)) := by
  induction k with
  | zero =>
    have z : popc (msk s.2.2.2.testBit 0) = 0 := by simp [popc, msk, b2n]
    rw [z]
    show nI 0 = nI 0 + nI 0
    decide
  | succ k ih =>
    rw [sumP_succ, sumP_succ, ih (fun q hq => e q (by omega)) (by omega), e k (by omega), popc_msk10 (by omega)]
    cases s.2.2.2.testBit k with
    | false =>
      show sumP r 23 k + nI (popc (msk s.2.2.2.testBit k)) + r (23 + 9 * k) = sumP r 23 k + r (23 + 9 * k) + nI (popc (msk s.2.2.2.testBit k) + 0)
      rw [Nat.add_zero, Int32.add_assoc, Int32.add_assoc, Int32.add_comm (r (23 + 9 * k))]
    | true =>
      show sumP r 23 k + nI (popc (msk s.2.2.2.testBit k)) + (r (23 + 9 * k) + nI 1) = sumP r 23 k + r (23 + 9 * k) + nI (popc (msk s.2.2.2.testBit k) + 1)
      rw [← nI_add, Int32.add_assoc, Int32.add_assoc, ← Int32.add_assoc (nI _) (r _), Int32.add_comm (nI _) (r _), Int32.add_assoc]
theorem Iv_go (h : Iv0 r P G n B) (hP : P ≤ 8) : Iv0 (goR r H P G n) P G (n + 1) B := by
  obtain ⟨a1, a2, a3, a4, a5, ⟨t, a6, a7⟩, a8⟩ := h
  have e : ∀ k, ¬ k = 0 → ¬ k = 1 → ¬ k = 5 → ¬ k = 6 → ¬ k = 7 → goR r H P G n k = it (goS (goL r H P G n) n) r P k := by
    intro k h0 h1 h5 h6 h7
    unfold goR
    rw [if_neg h0, if_neg h1, if_neg h5, if_neg h6, if_neg h7]
  have e24 : ∀ p, p < P → goR r H P G n (24 + 9 * p) = r (24 + 9 * p) := fun p hp => by rw [e _ (by omega) (by omega) (by omega) (by omega) (by omega)]; exact itS_pl (by omega) (fun q => ⟨by omega, by omega, by omega, by omega⟩)
  have w : whoOK (goL r H P G n) G := who_look hP
  refine ⟨own_goR hP a1, uniq_goR hP a2, step_goR hP a3, ?_, ?_, ?_, fun p hp => ?_⟩
  · have s7 : goR r H P G n 7 = r 7 + nI (popc (goL r H P G n).2.2.2) := rfl
    have so := sum_open (r := r) (r' := goR r H P G n) (s := goL r H P G n) (k := P) (fun q hq => ?_) hP
    · rw [msk_self goL_lt] at so
      rw [s7, so, a4]
    · rw [e _ (by omega) (by omega) (by omega) (by omega) (by omega), itS_23 (by omega) hP]
      have b := w.2.1 q (by omega)
      cases hb : (goL r H P G n).2.2.2.testBit q with
      | true => rw [if_pos ⟨hq, b.mp hb⟩, if_pos rfl]
      | false =>
        have : ¬ (q < P ∧ ¬ (goL r H P G n).2.1 q = nI 0) := fun z => by rw [b.mpr z.2] at hb; cases hb
        rw [if_neg this, if_neg (by simp)]
  · rw [sumP_congr e24, ← a5, e 8 (by omega) (by omega) (by omega) (by omega) (by omega), it_goS_lo (by omega)]
  · have pl := popc_mle (g := nee r H (nI (n / 2)) (nI (n % 2))) (k := P) (by omega)
    refine ⟨t + popc (msk (nee r H (nI (n / 2)) (nI (n % 2))) P), by omega, ?_⟩
    show r 6 + nI _ = _
    rw [a7, nI_add]
  · rw [e24 p hp]; exact a8 p hp
theorem Iv_goN (h : Iv0 r P G n B) (hP : P ≤ 8) : ∀ k, Iv0 (goN r H P G n k) P G (n + k) B
  | 0 => h
  | k + 1 => Iv_go (Iv_goN h hP k) hP
theorem Iv.mono {s : SvT} (h : Iv s B) (hB : B ≤ B') : Iv s B' := ⟨h.1.to (fun _ _ => rfl) (fun _ _ => ⟨rfl, rfl⟩) (fun _ _ => ⟨rfl, rfl⟩) hB, h.2⟩
end
