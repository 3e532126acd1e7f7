/-! WHAT HOLDS OF EVERY STATE OF THE LAW -/
def J (r : Rw) (H P G n : Nat) : Prop := (∃ B, Iv0 r P G n B) ∧ rowOK r H P G n ∧ (∀ g, g < G → GJ (gRow r g) (8 * n)) ∧ (∀ p, p < P → (∃ o, o ≤ n ∧ r (23 + 9 * p) = nI o) ∧ (r (29 + 9 * p) = nI 0 ∨ r (28 + 9 * p) = -1)) ∧ ∃ T c, T ≤ 8 * n ∧ c ≤ n ∧ r 6 = nI T ∧ r 5 = nI c ∧ tA r G + tO r P = T
section
variable {r r' : Rw} {H H' P G n B B' : Nat}
theorem tA_to (eg : ∀ g, g < G → ∀ k, 96 + 9 * g ≤ k → k < 102 + 9 * g → ¬ k = 99 + 9 * g → r' k = r k) : tA r' G = tA r G :=
  sumN_congr (fun g hg => by rw [eg g hg _ (by omega) (by omega) (by omega), eg g hg _ (by omega) (by omega) (by omega)])
theorem GJ_to {g : Nat} (eg : ∀ k, 96 + 9 * g ≤ k → k < 102 + 9 * g → ¬ k = 99 + 9 * g → r' k = r k) (h : GJ (gRow r g) B) (hB : B ≤ B') : GJ (gRow r' g) B' :=
  h.congr hB (eg _ (by omega) (by omega) (by omega)) (eg _ (by omega) (by omega) (by omega)) (eg _ (by omega) (by omega) (by omega)) (eg _ (by omega) (by omega) (by omega)) (eg _ (by omega) (by omega) (by omega))
theorem J.to (j : J r H P G n) (iv : Iv0 r' P G n B') (ok : rowOK r' H' P G n) (e5 : r' 5 = r 5) (e6 : r' 6 = r 6) (ep : ∀ p, p < P → r' (23 + 9 * p) = r (23 + 9 * p) ∧ r' (28 + 9 * p) = r (28 + 9 * p) ∧ r' (29 + 9 * p) = r (29 + 9 * p)) (eg : ∀ g, g < G → ∀ k, 96 + 9 * g ≤ k → k < 102 + 9 * g → ¬ k = 99 + 9 * g → r' k = r k) : J r' H' P G n := by
  obtain ⟨_, _, a3, a4, T, c, b1, b2, b3, b4, b5⟩ := j
  refine ⟨⟨_, iv⟩, ok, fun g hg => GJ_to (eg g hg) (a3 g hg) (Nat.le_refl _), fun p hp => ?_, T, c, b1, b2, e6.trans b3, e5.trans b4, ?_⟩
  · obtain ⟨e1, e2, e3⟩ := ep p hp
    rw [e1, e2, e3]
    exact a4 p hp
  · rw [tA_to eg, show tO r' P = tO r P from sumN_congr (fun p hp => by rw [(ep p hp).1])]
    exact b5
theorem J.iv (j : J r H P G n) : ∃ B, Iv0 r P G n B := j.1
theorem J.own (j : J r H P G n) : ownOK r P G := by obtain ⟨⟨B, h⟩, _⟩ := j; exact h.1
theorem J.un (j : J r H P G n) : uniq r G := by obtain ⟨⟨B, h⟩, _⟩ := j; exact h.2.1
theorem J.st (j : J r H P G n) : stepOK r G := by obtain ⟨⟨B, h⟩, _⟩ := j; exact h.2.2.1
theorem J.ok (j : J r H P G n) : rowOK r H P G n := j.2.1
theorem J.gu (j : J r H P G n) {g : Nat} (hg : g < G) : GJ (gRow r g) (8 * n) := j.2.2.1 g hg
theorem J.po (j : J r H P G n) {p : Nat} (hp : p < P) : (∃ o, o ≤ n ∧ r (23 + 9 * p) = nI o) ∧ (r (29 + 9 * p) = nI 0 ∨ r (28 + 9 * p) = -1) := j.2.2.2.1 p hp
theorem J.P8 (j : J r H P G n) : P ≤ 8 := j.ok.2.1
theorem J.G10 (j : J r H P G n) : G ≤ 10 := j.ok.2.2.1
theorem J.H6 (j : J r H P G n) : H ≤ 6 := j.ok.1
theorem J_hol {x y : Int32} (j : J r H P G n) (hH : H < 6) : J (holR r H x y) (H + 1) P G n := by
  obtain ⟨B, iv⟩ := j.iv
  have e : ∀ k, ¬ k = 9 + 2 * H → ¬ k = 10 + 2 * H → ¬ k = 2 → holR r H x y k = r k := by
    intro k h1 h2 h3
    unfold holR
    rw [if_neg h1, if_neg h2, if_neg h3]
  exact j.to (Iv_hol iv hH) (hol_ok j.ok hH) (e _ (by omega) (by omega) (by omega)) (e _ (by omega) (by omega) (by omega)) (fun p hp => ⟨e _ (by omega) (by omega) (by omega), e _ (by omega) (by omega) (by omega), e _ (by omega) (by omega) (by omega)⟩) (fun g hg k h1 h2 h3 => e _ (by omega) (by omega) (by omega))
theorem J_needs {p : Nat} {y : Int32} (j : J r H P G n) (hp : p < P) : J (pu r (22 + 9 * p) y) H P G n := by
  obtain ⟨B, iv⟩ := j.iv
  have P8 := j.P8
  have e : ∀ k, ¬ k = 22 + 9 * p → pu r (22 + 9 * p) y k = r k := fun k hk => if_neg hk
  exact j.to (Iv_pu iv (by omega) (by omega) (by omega) (fun q => Or.inl ⟨by omega, by omega⟩) (fun g => ⟨by omega, by omega⟩) P8) (pu_ok j.ok (by omega) (fun q => Or.inl (by omega)) (fun g => by omega)) (e _ (by omega)) (e _ (by omega)) (fun q hq => ⟨e _ (by omega), e _ (by omega), e _ (by omega)⟩) (fun g hg k h1 h2 h3 => e _ (by omega))
theorem J_sick {g : Nat} {y : Int32} (j : J r H P G n) (hg : g < G) : J (pu r (99 + 9 * g) y) H P G n := by
  obtain ⟨B, iv⟩ := j.iv
  have P8 := j.P8
  have e : ∀ k, ¬ k = 99 + 9 * g → pu r (99 + 9 * g) y k = r k := fun k hk => if_neg hk
  exact j.to (Iv_pu iv (by omega) (by omega) (by omega) (fun q => Or.inr (by omega)) (fun g => ⟨by omega, by omega⟩) P8) (pu_ok j.ok (by omega) (fun q => Or.inr (by omega)) (fun g => by omega)) (e _ (by omega)) (e _ (by omega)) (fun q hq => ⟨e _ (by omega), e _ (by omega), e _ (by omega)⟩) (fun g9 hg k h1 h2 h3 => e _ (by omega))
theorem J_setPost {g : Nat} {w : Int32} (j : J r H P G n) (hg : g < G) (hw : w = -1 ∨ inR w P = true) (h3 : w = -1 ∨ ownerF r w G = -1 ∨ ownerF r w G = nI g) : J (pu r (95 + 9 * g) w) H P G n := by
  obtain ⟨B, iv⟩ := j.iv
  have P8 := j.P8
  have e : ∀ k, ¬ k = 95 + 9 * g → pu r (95 + 9 * g) w k = r k := fun k hk => if_neg hk
  exact j.to (Iv_setPost iv j.G10 P8 hg hw h3) (pu_ok j.ok (by omega) (fun q => Or.inr (by omega)) (fun g => by omega)) (e _ (by omega)) (e _ (by omega)) (fun q hq => ⟨e _ (by omega), e _ (by omega), e _ (by omega)⟩) (fun g9 hg k h1 h2 h3 => e _ (by omega))
theorem J_compl {p : Nat} (j : J r H P G n) (hp : p < P) : J (complR r p n) H P G n := by
  obtain ⟨B, iv⟩ := j.iv
  have P8 := j.P8
  have e : ∀ k, ¬ k = 8 → ¬ k = 24 + 9 * p → ¬ k = 27 + 9 * p → ¬ k = 26 + 9 * p → complR r p n k = r k := by
    intro k h1 h2 h3 h4
    unfold complR
    rw [if_neg h1, if_neg h2, if_neg h3, if_neg h4]
  exact j.to (Iv_compl iv P8 hp) (compl_ok j.ok hp) (e _ (by omega) (by omega) (by omega) (by omega)) (e _ (by omega) (by omega) (by omega) (by omega)) (fun q hq => ⟨e _ (by omega) (by omega) (by omega) (by omega), e _ (by omega) (by omega) (by omega) (by omega), e _ (by omega) (by omega) (by omega) (by omega)⟩) (fun g hg k h1 h2 h3 => e _ (by omega) (by omega) (by omega) (by omega))
theorem J_post {x y : Int32} (j : J r H P G n) (hP : P < 8) (hx : ∃ u, u ≤ 99 ∧ x = nI u) : J (postR r P x y) H (P + 1) G n := by
  obtain ⟨B, iv⟩ := j.iv
  have e : ∀ k, ¬ (21 + 9 * P ≤ k ∧ k < 30 + 9 * P) → ¬ k = 3 → postR r P x y k = r k := by
    intro k h1 h3
    unfold postR
    rw [if_neg h1, if_neg h3]
  have n2 : postR r P x y (23 + 9 * P) = nI 0 := by
    unfold postR
    rw [if_pos ⟨by omega, by omega⟩, show 23 + 9 * P - (21 + 9 * P) = 2 by omega]
    rfl
  have n8 : postR r P x y (29 + 9 * P) = nI 0 := by
    unfold postR
    rw [if_pos ⟨by omega, by omega⟩, show 29 + 9 * P - (21 + 9 * P) = 8 by omega]
    rfl
  obtain ⟨_, _, a3, a4, T, c, b1, b2, b3, b4, b5⟩ := id j
  refine ⟨⟨B, Iv_post iv hP⟩, post_ok j.ok hP hx, fun g hg => GJ_to (fun k h1 h2 h3 => e k (by omega) (by omega)) (a3 g hg) (Nat.le_refl _), fun p hp => ?_, T, c, b1, b2, (e _ (by omega) (by omega)).trans b3, (e _ (by omega) (by omega)).trans b4, ?_⟩
  · by_cases c : p = P
    · rw [c]
      exact ⟨⟨0, by omega, n2⟩, Or.inl n8⟩
    · rw [e _ (by omega) (by omega), e _ (by omega) (by omega), e _ (by omega) (by omega)]
      exact a4 p (by omega)
  · have t1 : tA (postR r P x y) G = tA r G := tA_to (fun g hg k h1 h2 h3 => e k (by omega) (by omega))
    have t2 : tO (postR r P x y) (P + 1) = tO r P := by
      show tO (postR r P x y) P + vN (postR r P x y (23 + 9 * P)) = tO r P
      rw [n2, show tO (postR r P x y) P = tO r P from sumN_congr (fun p hp => by rw [e _ (by omega) (by omega)])]
      rfl
    rw [t1, t2]
    exact b5
theorem J_guard {x y w : Int32} (j : J r H P G n) (hG : G < 10) (hx : ∃ u, u ≤ 99 ∧ x = nI u) (hw : w = -1 ∨ inR w P = true) (h3 : w = -1 ∨ ownerF r w G = -1) : J (guardR r G x y w) H P (G + 1) n := by
  obtain ⟨B, iv⟩ := j.iv
  have P8 := j.P8
  have e : ∀ k, ¬ (93 + 9 * G ≤ k ∧ k < 102 + 9 * G) → ¬ k = 4 → guardR r G x y w k = r k := by
    intro k h1 h3
    unfold guardR
    rw [if_neg (by omega), if_neg (by omega), if_neg (by omega), if_neg (by omega), if_neg h3]
  have n6 : ∀ k, 96 + 9 * G ≤ k → k < 102 + 9 * G → guardR r G x y w k = nI 0 := by
    intro k h1 h2
    unfold guardR
    rw [if_neg (by omega), if_neg (by omega), if_neg (by omega), if_pos ⟨by omega, by omega⟩]
  obtain ⟨_, _, a3, a4, T, c, b1, b2, b3, b4, b5⟩ := id j
  refine ⟨⟨B, Iv_guard iv hG P8 hw h3⟩, guard_ok j.ok hG hx, fun g hg => ?_, fun p hp => ?_, T, c, b1, b2, (e _ (by omega) (by omega)).trans b3, (e _ (by omega) (by omega)).trans b4, ?_⟩
  · by_cases c : g = G
    · rw [c]
      exact ⟨0, 0, 0, 0, 0, ⟨by omega, by omega, by omega, by omega, by omega, by omega⟩, n6 _ (by omega) (by omega), n6 _ (by omega) (by omega), n6 _ (by omega) (by omega), n6 _ (by omega) (by omega), n6 _ (by omega) (by omega)⟩
    · exact GJ_to (fun k h1 h2 h3 => e k (by omega) (by omega)) (a3 g (by omega)) (Nat.le_refl _)
  · rw [e _ (by omega) (by omega), e _ (by omega) (by omega), e _ (by omega) (by omega)]
    exact a4 p hp
  · have t1 : tA (guardR r G x y w) (G + 1) = tA r G := by
      show tA (guardR r G x y w) G + (vN (guardR r G x y w (100 + 9 * G)) + vN (guardR r G x y w (101 + 9 * G))) = tA r G
      rw [n6 _ (by omega) (by omega), n6 _ (by omega) (by omega), tA_to (fun g hg k h1 h2 h3 => e k (by omega) (by omega))]
      rfl
    have t2 : tO (guardR r G x y w) P = tO r P := sumN_congr (fun p hp => by rw [e _ (by omega) (by omega)])
    rw [t1, t2]
    exact b5
theorem goL_y {p : Nat} (hP : P ≤ 8) (hG : G ≤ 10) (hO : ownOK r P G) (hp : p < P) : ((goL r H P G n).2.2.2.testBit p = true ↔ ¬ (goL r H P G n).2.1 p = nI 0) ∧ ((goL r H P G n).2.2.2.testBit p = true → (goL r H P G n).1 p = -1) ∧ ((goL r H P G n).2.1 p = nI 0 ∨ nI 0 < (goL r H P G n).2.1 p) :=
  ⟨(who_look hP).2.1 p (by omega), open_who hP, (look_I hP hG hO).2.2.2.2.2 p⟩
theorem J_go (j : J r H P G n) (hn9 : n < 5000) : J (goR r H P G n) H P G (n + 1) := by
  obtain ⟨B, iv⟩ := j.iv
  have P8 := j.P8
  have G10 := j.G10
  obtain ⟨_, _, a3, a4, T, c, b1, b2, b3, b4, b5⟩ := id j
  have w : whoOK (goL r H P G n) G := who_look P8
  have pi := pay_it (r := r) (s := goL r H P G n) (B := 8 * n) P8 G10 (by omega) w j.ok a3 P (Nat.le_refl P)
  have ge : ∀ g, g < G → ∀ k, 96 + 9 * g ≤ k → k < 102 + 9 * g → ¬ k = 99 + 9 * g → goR r H P G n k = it (goS (goL r H P G n) n) r P k := fun g hg k h1 h2 h3 => goR_e (by omega) (by omega) (by omega) (by omega) (by omega)
  refine ⟨⟨B, Iv_go iv P8⟩, goR_ok j.ok (by omega), fun g hg => GJ_to (ge g hg) (pi.1 g hg) (by omega), fun p hp => ⟨?_, ?_⟩, T + popc (msk (nee r H (nI (n / 2)) (nI (n % 2))) P), c + (if sch r (nI (n / 2)) H = true then 1 else 0), ?_, ?_, ?_, ?_, ?_⟩
  · obtain ⟨o, h1, h2⟩ := (a4 p hp).1
    rw [goR_e (by omega) (by omega) (by omega) (by omega) (by omega), itS_23 (by omega) P8]
    split
    · exact ⟨o + 1, by omega, by rw [h2, nI_add]⟩
    · exact ⟨o, by omega, h2⟩
  · obtain ⟨y1, y2, y3⟩ := goL_y (H := H) (n := n) P8 G10 j.own hp
    rw [goR_29 P8 hp, goR_28 P8 hp]
    by_cases z : (goL r H P G n).2.1 p = nI 0
    · exact Or.inl z
    · exact Or.inr (y2 (y1.mpr z))
  · have pl := popc_mle (g := nee r H (nI (n / 2)) (nI (n % 2))) (k := P) (by omega)
    omega
  · split <;> omega
  · show r 6 + nI _ = _
    rw [b3, nI_add]
  · show r 5 + (if sch r (nI (n / 2)) H = true then nI 1 else nI 0) = _
    rw [b4]
    split
    · rw [nI_add]
    · rw [nI_add]
  · have l1 := look_cnt (r := r) (P := P) (G := G) (n := n) (W := wl r (nI (n / 2))) (nd := nee r H (nI (n / 2)) (nI (n % 2))) P8 G10 j.own
    have l2 := look_lt2 (r := r) (W := wl r (nI (n / 2))) (nd := nee r H (nI (n / 2)) (nI (n % 2))) (P := P) (G := G) (n := n)
    have t1 : tA (goR r H P G n) G = tA r G + cnt (stn (goL r H P G n)) P := by rw [tA_to ge, pi.2]
    have t2 : tO (goR r H P G n) P = tO r P + cnt (goL r H P G n).2.2.2.testBit P := sumN_add (fun p hp => by
      obtain ⟨o, h1, h2⟩ := (a4 p hp).1
      have y1 := (goL_y (H := H) (n := n) P8 G10 j.own hp).1
      rw [goR_e (by omega) (by omega) (by omega) (by omega) (by omega), itS_23 (by omega) P8, h2, vN_nI (by omega)]
      cases hb : (goL r H P G n).2.2.2.testBit p with
      | true =>
        rw [if_pos ⟨hp, y1.mp hb⟩, nI_add, vN_nI (by omega)]
        rfl
      | false =>
        have : ¬ (p < P ∧ ¬ (goL r H P G n).2.1 p = nI 0) := fun z => by rw [y1.mpr z.2] at hb; cases hb
        rw [if_neg this, vN_nI (by omega)]
        rfl)
    have e2 : popc (goL r H P G n).2.2.2 = cnt (goL r H P G n).2.2.2.testBit P := by
      rw [← popc_cnt (by omega), msk_self goL_lt]
    change popc _ = popc (goL r H P G n).2.2.2 + cnt (stn (goL r H P G n)) P at l1
    rw [t1, t2, l1, e2, ← b5]
    omega
theorem J_goN (j : J r H P G n) : ∀ k, n + k < 5000 → J (goN r H P G n k) H P G (n + k)
  | 0, _ => j
  | k + 1, h => J_go (J_goN j k (by omega)) (by omega)
/-! the first state -/
theorem J_0 : J (fun _ => 0) 0 0 0 0 :=
  ⟨⟨0, fun g hg => absurd hg (Nat.not_lt_zero _), fun g k hg => absurd hg (Nat.not_lt_zero _), fun g hg => absurd hg (Nat.not_lt_zero _), rfl, rfl, ⟨0, by omega, rfl⟩, fun p hp => absurd hp (Nat.not_lt_zero _)⟩, ⟨by omega, by omega, by omega, by omega, rfl, rfl, rfl, rfl, rfl, fun p hp => absurd hp (Nat.not_lt_zero _), fun g hg => absurd hg (Nat.not_lt_zero _)⟩, fun g hg => absurd hg (Nat.not_lt_zero _), fun p hp => absurd hp (Nat.not_lt_zero _), 0, 0, by omega, by omega, rfl, rfl, rfl⟩
end
