/-! EACH CALL, ON BOTH SIDES -/
section
variable {L : Nat} {xs : Nat → Int32} {h h1 h2 : AH} {s s' : SvT} {m m' len len' : Nat} {sv sv' : Nat → SvT} {tx tx' : Rw} {r : Rw} {H P G n B : Nat}
theorem push_iv (iv : Iv s B) (ivs : ∀ i, i < m → Iv (sv i) B) (m4 : m ≤ 4) : ∀ i, i < pushN m → Iv (push m sv s i) (B + 30) := by
  intro i hi
  unfold pushN at hi
  unfold push
  by_cases c : m = 4
  · rw [if_pos c] at hi ⊢
    by_cases d : i = 3
    · rw [if_pos d]; exact iv.mono (by omega)
    · rw [if_neg d]; exact (ivs (i + 1) (by omega)).mono (by omega)
  · rw [if_neg c] at hi ⊢
    by_cases d : i = m
    · rw [if_pos d]; exact iv.mono (by omega)
    · rw [if_neg d]; exact (ivs i (by omega)).mono (by omega)
theorem pr_thr {mL mX : MD} {a1 a2 : List Value} {k : Nat} (l : LR h s m sv tx len B) (hk : ¬ k = 0) (k3 : k < 10) (hW : Ev (ev L xs mL 0 a1 [] h) (WK h s m sv tx len k (nI 0))) (hM : ∀ h1, MR h1 s m sv tx len → Ev (ev L xs mX 0 a2 [] h1) (OkM h1 s m sv tx len (some (.int (nI 0))) k)) : Pr L xs h s m sv tx len B mL mX a1 a2 :=
  ⟨k, nI 0, s, m, sv, tx, len, nI 0, hW, hM, k3, fun z => absurd z hk, l.2.2.1.mono (by omega), fun i hi => (l.2.2.2 i hi).mono (by omega)⟩
theorem pr_ok {mL mX : MD} {a1 a2 : List Value} {v : Int32} (hW : Ev (ev L xs mL 0 a1 [] h) (WK h s' m' sv' tx' len' 0 v)) (hM : ∀ h1, MR h1 s m sv tx len → Ev (ev L xs mX 0 a2 [] h1) (OkM h1 s' m' sv' tx' len' (some (.int v)) 0)) (iv : Iv s' (B + 30)) (ivs : ∀ i, i < m' → Iv (sv' i) (B + 30)) : Pr L xs h s m sv tx len B mL mX a1 a2 :=
  ⟨0, v, s', m', sv', tx', len', v, hW, hM, by omega, fun _ => rfl, iv, ivs⟩
/-- the state stays -/
theorem pr_id {mL mX : MD} {a1 a2 : List Value} {v : Int32} (l : LR h s m sv tx len B) (hW : Ev (ev L xs mL 0 a1 [] h) (WK h s m sv tx len 0 v)) (hM : ∀ h1, MR h1 s m sv tx len → Ev (ev L xs mX 0 a2 [] h1) (OkM h1 s m sv tx len (some (.int v)) 0)) : Pr L xs h s m sv tx len B mL mX a1 a2 :=
  pr_ok hW hM (l.2.2.1.mono (by omega)) (fun i hi => (l.2.2.2 i hi).mono (by omega))
theorem LR.c (l : LR h (r, H, P, G, n) m sv tx len B) : CR h (r, H, P, G, n) m sv tx len := l.1
theorem LR.mr (l : LR h (r, H, P, G, n) m sv tx len B) : MR h (r, H, P, G, n) m sv tx len := l.2.1
theorem LR.ok (l : LR h (r, H, P, G, n) m sv tx len B) : rowOK r H P G n := l.2.1.1.ok
theorem LR.P8 (l : LR h (r, H, P, G, n) m sv tx len B) : P ≤ 8 := l.ok.2.1
theorem LR.H6 (l : LR h (r, H, P, G, n) m sv tx len B) : H ≤ 6 := l.ok.1
theorem LR.G10 (l : LR h (r, H, P, G, n) m sv tx len B) : G ≤ 10 := l.ok.2.2.1
theorem LR.iv (l : LR h (r, H, P, G, n) m sv tx len B) : Iv0 r P G n B := l.2.2.1.1
theorem LR.n6 (l : LR h (r, H, P, G, n) m sv tx len B) : n ≤ 6002 := l.2.2.1.2
theorem LR.hO (l : LR h (r, H, P, G, n) m sv tx len B) : ownOK r P G := l.iv.1
theorem LR.hu (l : LR h (r, H, P, G, n) m sv tx len B) : uniq r G := l.iv.2.1
theorem LR.st (l : LR h (r, H, P, G, n) m sv tx len B) : stepOK r G := l.iv.2.2.1
theorem LR.s7 (l : LR h (r, H, P, G, n) m sv tx len B) : r 7 = sumP r 23 P := l.iv.2.2.2.1
theorem LR.s8 (l : LR h (r, H, P, G, n) m sv tx len B) : r 8 = sumP r 24 P := l.iv.2.2.2.2.1
theorem LR.pu (l : LR h (r, H, P, G, n) m sv tx len B) : ∀ i, i < pushN m → Iv (push m sv (r, H, P, G, n) i) (B + 30) := push_iv l.2.2.1 l.2.2.2 l.1.m4
theorem Iv0.up (i : Iv0 r P G n B) {B' : Nat} (hB : B ≤ B') : Iv0 r P G n B' := i.to (fun _ _ => rfl) (fun _ _ => ⟨rfl, rfl⟩) (fun _ _ => ⟨rfl, rfl⟩) hB
theorem ev_id {md : MD} {as : List Value} {v : Int32} (c : CR h s m sv tx len) (e : ev L xs md 0 as [] h = some (.inl (some (.int v), h))) : Ev (ev L xs md 0 as [] h) (OkC h s m sv tx len (some (.int v))) := by
  rw [e, Ev_some]
  exact OkC_id c
theorem pr_addHoliday {x y : Int32} (l : LR h (r, H, P, G, n) m sv tx len B) : Pr L xs h (r, H, P, G, n) m sv tx len B mdL_addHoliday mdX7_addHoliday [.ref 0, .int x, .int y, .ref 160, .null] [.ref 151, .int x, .int y] := by
  have H6 := l.H6
  by_cases e : (nI 0 ≤ x ∧ x ≤ nI 3000) ∧ (x ≤ y ∧ y ≤ nI 3000)
  · by_cases e2 : H < 6
    · exact pr_ok (wo_addHoliday l.c (a_addHoliday0 l.c e e2)) (fun h1 c1 => b_addHoliday0 c1 e e2) ⟨(Iv_hol l.iv e2).up (by omega), l.n6⟩ l.pu
    · have e3 : H = 6 := by omega
      exact pr_thr l (by decide) (by omega) (wx_addHoliday2 l.c (a_addHoliday2 l.c e e3)) (fun h1 c1 => b_addHoliday2 c1 e e3)
  · exact pr_thr l (by decide) (by omega) (wx_addHoliday1 l.c (a_addHoliday1 l.c e)) (fun h1 c1 => b_addHoliday1 c1 e)
theorem pr_addPost {x y : Int32} (l : LR h (r, H, P, G, n) m sv tx len B) : Pr L xs h (r, H, P, G, n) m sv tx len B mdL_addPost mdX7_addPost [.ref 0, .int x, .int y, .ref 160, .null] [.ref 151, .int x, .int y, .null] := by
  have P8 := l.P8
  by_cases e : (nI 0 ≤ x ∧ x ≤ nI 99) ∧ (nI 0 ≤ y ∧ y ≤ nI 1023)
  · by_cases e2 : P < 8
    · exact pr_ok (wo_addPost l.c (a_addPost0 l.c e e2)) (fun h1 c1 => b_addPost0 c1 e e2) ⟨(Iv_post l.iv e2).up (by omega), l.n6⟩ l.pu
    · have e3 : P = 8 := by omega
      exact pr_thr l (by decide) (by omega) (wx_addPost2 l.c (a_addPost2 l.c e e3)) (fun h1 c1 => b_addPost2 c1 e e3)
  · exact pr_thr l (by decide) (by omega) (wx_addPost1 l.c (a_addPost1 l.c e)) (fun h1 c1 => b_addPost1 c1 e)
theorem pr_setNeeds {x y : Int32} (l : LR h (r, H, P, G, n) m sv tx len B) : Pr L xs h (r, H, P, G, n) m sv tx len B mdL_setNeeds mdX7_setNeeds [.ref 0, .int x, .int y, .ref 160, .null] [.ref 151, .int x, .int y, .null] := by
  have P8 := l.P8
  cases e1 : inR x P with
  | false => exact pr_thr l (by decide) (by omega) (wx_setNeeds1 l.c (a_setNeeds1 l.c e1)) (fun h1 c1 => b_setNeeds1 c1 e1)
  | true =>
    by_cases e2 : nI 0 ≤ y ∧ y ≤ nI 1023
    · obtain ⟨p, hp, rfl⟩ := inR_nat (by omega) e1
      exact pr_ok (wo_setNeeds l.c (a_setNeeds0 l.c hp e2)) (fun h1 c1 => b_setNeeds0 c1 hp e2) ⟨(Iv_pu l.iv (by omega) (by omega) (by omega) (fun q => Or.inl ⟨by omega, by omega⟩) (fun q => ⟨by omega, by omega⟩) P8).up (by omega), l.n6⟩ l.pu
    · exact pr_thr l (by decide) (by omega) (wx_setNeeds2 l.c (a_setNeeds2 l.c e1 e2)) (fun h1 c1 => b_setNeeds2 c1 e1 e2)
theorem pr_addGuard {x y w : Int32} (l : LR h (r, H, P, G, n) m sv tx len B) : Pr L xs h (r, H, P, G, n) m sv tx len B mdL_addGuard mdX7_addGuard [.ref 0, .int x, .int y, .int w, .ref 160, .null] [.ref 151, .int x, .int y, .int w, .null] := by
  have P8 := l.P8
  have G10 := l.G10
  by_cases e : w = -1 ∨ inR w P = true
  · by_cases e2 : (nI 0 ≤ x ∧ x ≤ nI 99) ∧ (nI 0 ≤ y ∧ y ≤ nI 99)
    · by_cases e3 : G = 10 ∨ (¬ w = -1 ∧ ¬ ownerF r w G = -1)
      · exact pr_thr l (by decide) (by omega) (wx_addGuard3 l.c (a_addGuard3 l.c l.hu e e2 e3)) (fun h1 c1 => b_addGuard3 c1 e e2 e3)
      · have hG : G < 10 := by
          have : ¬ G = 10 := fun z => e3 (Or.inl z)
          omega
        have e4 : w = -1 ∨ ownerF r w G = -1 := by
          by_cases z : w = -1
          · exact Or.inl z
          · exact Or.inr (Classical.byContradiction (fun q => e3 (Or.inr ⟨z, q⟩)))
        exact pr_ok (wo_addGuard l.c (a_addGuard0 l.c l.hu e e2 hG e4)) (fun h1 c1 => b_addGuard0 c1 e e2 hG e4) ⟨(Iv_guard l.iv hG P8 e e4).up (by omega), l.n6⟩ l.pu
    · exact pr_thr l (by decide) (by omega) (wx_addGuard2 l.c (a_addGuard2 l.c e e2)) (fun h1 c1 => b_addGuard2 c1 e e2)
  · have w1 : ¬ w = -1 := fun z => e (Or.inl z)
    have w2 : inR w P = false := by
      cases z : inR w P with
      | false => rfl
      | true => exact absurd (Or.inr z) e
    exact pr_thr l (by decide) (by omega) (wx_addGuard1 l.c (a_addGuard1 l.c w1 w2)) (fun h1 c1 => b_addGuard1 c1 w1 w2)
theorem pr_setPost {x w : Int32} (l : LR h (r, H, P, G, n) m sv tx len B) : Pr L xs h (r, H, P, G, n) m sv tx len B mdL_setPost mdX7_setPost [.ref 0, .int x, .int w, .ref 160, .null] [.ref 151, .int x, .int w, .null, .null, .null] := by
  have P8 := l.P8
  have G10 := l.G10
  cases e1 : inR x G with
  | false => exact pr_thr l (by decide) (by omega) (wx_setPost1 l.c (a_setPost1 l.c (Or.inl e1))) (fun h1 c1 => b_setPost1 c1 (Or.inl e1))
  | true =>
    by_cases e : w = -1 ∨ inR w P = true
    · obtain ⟨g, hg, rfl⟩ := inR_nat (by omega) e1
      by_cases e3 : w = -1 ∨ w = r (95 + 9 * g) ∨ ownerF r w G = -1
      · have e4 : w = -1 ∨ ownerF r w G = -1 ∨ ownerF r w G = nI g := by
          rcases e3 with z | z | z
          · exact Or.inl z
          · by_cases q : w = -1
            · exact Or.inl q
            · exact Or.inr (Or.inr (ownerF_is l.hu hg z.symm q))
          · exact Or.inr (Or.inl z)
        exact pr_ok (wo_setPost l.c (a_setPost0 l.c l.hu hg e e3)) (fun h1 c1 => b_setPost0 c1 hg e e4) ⟨(Iv_setPost l.iv G10 P8 hg e e4).up (by omega), l.n6⟩ l.pu
      · have w1 : ¬ w = -1 := fun z => e3 (Or.inl z)
        have w2 : ¬ w = r (95 + 9 * g) := fun z => e3 (Or.inr (Or.inl z))
        have w3 : ¬ ownerF r w G = -1 := fun z => e3 (Or.inr (Or.inr z))
        have w4 : ¬ ownerF r w G = nI g := fun z => w2 (ownerF_own (by omega) (by omega) z).2.symm
        exact pr_thr l (by decide) (by omega) (wx_setPost2 l.c (a_setPost2 l.c l.hu hg (e.resolve_left w1) w1 w2 w3)) (fun h1 c1 => b_setPost2 c1 hg (e.resolve_left w1) w1 w4 w3)
    · have w1 : ¬ w = -1 := fun z => e (Or.inl z)
      have w2 : inR w P = false := by
        cases z : inR w P with
        | false => rfl
        | true => exact absurd (Or.inr z) e
      exact pr_thr l (by decide) (by omega) (wx_setPost1 l.c (a_setPost1 l.c (Or.inr ⟨w1, w2⟩))) (fun h1 c1 => b_setPost1 c1 (Or.inr ⟨w1, w2⟩))
theorem pr_sick {x y : Int32} (l : LR h (r, H, P, G, n) m sv tx len B) : Pr L xs h (r, H, P, G, n) m sv tx len B mdL_sick mdX7_sick [.ref 0, .int x, .int y, .ref 160, .null] [.ref 151, .int x, .int y] := by
  have P8 := l.P8
  have G10 := l.G10
  cases e1 : inR x G with
  | false => exact pr_thr l (by decide) (by omega) (wx_sick1 l.c (a_sick1 l.c e1)) (fun h1 c1 => b_sick1 c1 e1)
  | true =>
    by_cases e2 : nI 0 ≤ y ∧ y ≤ nI 60
    · obtain ⟨g, hg, rfl⟩ := inR_nat (by omega) e1
      exact pr_ok (wo_sick l.c (a_sick0 l.c hg e2)) (fun h1 c1 => b_sick0 c1 hg e2) ⟨(Iv_pu l.iv (by omega) (by omega) (by omega) (fun q => Or.inr (by omega)) (fun q => ⟨by omega, by omega⟩) P8).up (by omega), l.n6⟩ l.pu
    · exact pr_thr l (by decide) (by omega) (wx_sick2 l.c (a_sick2 l.c e1 e2)) (fun h1 c1 => b_sick2 c1 e1 e2)
theorem pr_complain {x : Int32} (l : LR h (r, H, P, G, n) m sv tx len B) : Pr L xs h (r, H, P, G, n) m sv tx len B mdL_complain mdX7_complain [.ref 0, .int x, .ref 160, .null] [.ref 151, .int x] := by
  have P8 := l.P8
  cases e1 : inR x P with
  | false => exact pr_thr l (by decide) (by omega) (wx_complain1 l.c (a_complain1 l.c e1)) (fun h1 c1 => b_complain1 c1 e1)
  | true =>
    obtain ⟨p, hp, rfl⟩ := inR_nat (by omega) e1
    cases e2 : cmpl (r (25 + 9 * p)) (r (27 + 9 * p)) (nI n) with
    | true => exact pr_ok (wo_complain l.c (a_complain0 l.c hp e2)) (fun h1 c1 => b_complain0 c1 hp e2) ⟨(Iv_compl l.iv P8 hp).up (by omega), l.n6⟩ l.pu
    | false => exact pr_thr l (by decide) (by omega) (wx_complain2 l.c (a_complain2 l.c hp e2)) (fun h1 c1 => b_complain2 c1 hp e2)
theorem pr_step (l : LR h (r, H, P, G, n) m sv tx len B) : Pr L xs h (r, H, P, G, n) m sv tx len B mdL_step mdX7_step [.ref 0, .ref 160, .null] [.ref 151] := by
  have P8 := l.P8
  by_cases e : 3000 < n / 2
  · exact pr_thr l (by decide) (by omega) (wx_step1 l.c (a_step1 l.c e)) (fun h1 c1 => b_step1 c1 e)
  · exact pr_ok (wo_step l.c (a_step0 l.c e l.hO l.st)) (fun h1 c1 => b_step0 c1 e l.hO) ⟨(Iv_go l.iv P8).up (by omega), by show n + 1 ≤ 6002; omega⟩ l.pu
theorem pr_pass {x : Int32} (l : LR h (r, H, P, G, n) m sv tx len B) : Pr L xs h (r, H, P, G, n) m sv tx len B mdL_pass mdX7_pass [.ref 0, .int x, .ref 160, .null] [.ref 151, .int x] := by
  have P8 := l.P8
  have n6 := l.n6
  by_cases e : nI 1 ≤ x ∧ x ≤ nI 60
  · obtain ⟨d, d1, d2, rfl⟩ := i32_rng (by omega) (by omega) e.1 e.2
    by_cases e2 : n / 2 + d - 1 ≤ 3000
    · have g := Iv_goN (H := H) l.iv P8 (2 * (n / 2 + d) - n)
      rw [show n + (2 * (n / 2 + d) - n) = 2 * (n / 2 + d) by omega] at g
      exact pr_ok (wo_pass l.c (a_pass0 l.c ⟨d1, d2⟩ e2 l.hO l.st)) (fun h1 c1 => b_pass0 c1 ⟨d1, d2⟩ e2 l.hO) ⟨g.up (by omega), by show 2 * (n / 2 + d) ≤ 6002; omega⟩ l.pu
    · have e3 : ¬ nI (n / 2) + nI d - nI 1 ≤ nI 3000 := by rw [day_x (by omega) d1 d2]; exact e2
      exact pr_thr l (by decide) (by omega) (wx_pass2 l.c (a_pass2 l.c e e3)) (fun h1 c1 => b_pass2 c1 e e3)
  · exact pr_thr l (by decide) (by omega) (wx_pass1 l.c (a_pass1 l.c e)) (fun h1 c1 => b_pass1 c1 e)
theorem pr_post {x y : Int32} (l : LR h (r, H, P, G, n) m sv tx len B) : Pr L xs h (r, H, P, G, n) m sv tx len B mdL_post mdX7_post [.ref 0, .int x, .int y, .ref 160, .null] [.ref 151, .int x, .int y] := by
  have P8 := l.P8
  cases e1 : inR x P with
  | false => exact pr_thr l (by decide) (by omega) (wx_post1 l.c (a_post1 l.c e1)) (fun h1 c1 => b_post1 c1 e1)
  | true =>
    by_cases e2 : nI 0 ≤ y ∧ y ≤ nI 8
    · obtain ⟨p, hp, rfl⟩ := inR_nat (by omega) e1
      obtain ⟨w, _, w2, rfl⟩ := i32_rng (by omega) (by omega) e2.1 e2.2
      exact pr_id l (wo_post l.c (ev_id l.c (a_post0 l.c l.hu hp (by omega)))) (fun h1 c1 => b_post0 c1 hp (by omega))
    · exact pr_thr l (by decide) (by omega) (wx_post2 l.c (a_post2 l.c e1 e2)) (fun h1 c1 => b_post2 c1 e1 e2)
theorem pr_guard {x y : Int32} (l : LR h (r, H, P, G, n) m sv tx len B) : Pr L xs h (r, H, P, G, n) m sv tx len B mdL_guard mdX7_guard [.ref 0, .int x, .int y, .ref 160, .null] [.ref 151, .int x, .int y] := by
  have G10 := l.G10
  cases e1 : inR x G with
  | false => exact pr_thr l (by decide) (by omega) (wx_guard1 l.c (a_guard1 l.c e1)) (fun h1 c1 => b_guard1 c1 e1)
  | true =>
    by_cases e2 : nI 0 ≤ y ∧ y ≤ nI 10
    · obtain ⟨g, hg, rfl⟩ := inR_nat (by omega) e1
      obtain ⟨w, _, w2, rfl⟩ := i32_rng (by omega) (by omega) e2.1 e2.2
      exact pr_id l (wo_guard l.c (ev_id l.c (a_guard0 l.c hg (by omega)))) (fun h1 c1 => b_guard0 c1 hg (by omega))
    · exact pr_thr l (by decide) (by omega) (wx_guard2 l.c (a_guard2 l.c e1 e2)) (fun h1 c1 => b_guard2 c1 e1 e2)
theorem pr_value {y : Int32} (l : LR h (r, H, P, G, n) m sv tx len B) : Pr L xs h (r, H, P, G, n) m sv tx len B mdL_value mdX7_value [.ref 0, .int y, .ref 160, .null] [.ref 151, .int y] := by
  by_cases e2 : nI 0 ≤ y ∧ y ≤ nI 10
  · obtain ⟨w, _, w2, rfl⟩ := i32_rng (by omega) (by omega) e2.1 e2.2
    exact pr_id l (wo_value l.c (ev_id l.c (a_value0 l.c (by omega)))) (fun h1 c1 => b_value0 c1 l.s7 l.s8 (by omega))
  · exact pr_thr l (by decide) (by omega) (wx_value1 l.c (a_value1 l.c e2)) (fun h1 c1 => b_value1 c1 e2)
theorem pr_holiday {x y : Int32} (l : LR h (r, H, P, G, n) m sv tx len B) : Pr L xs h (r, H, P, G, n) m sv tx len B mdL_holiday mdX7_holiday [.ref 0, .int x, .int y, .ref 160, .null] [.ref 151, .int x, .int y] := by
  have H6 := l.H6
  cases e1 : inR x H with
  | false => exact pr_thr l (by decide) (by omega) (wx_holiday1 l.c (a_holiday1 l.c e1)) (fun h1 c1 => b_holiday1 c1 e1)
  | true =>
    obtain ⟨i, hi, rfl⟩ := inR_nat (by omega) e1
    exact pr_id l (wo_holiday l.c (ev_id l.c (a_holiday0 l.c hi))) (fun h1 c1 => b_holiday0 c1 hi)
theorem tm_c (x y : Int32) : (rng x 3000 = false ∨ rng y 1 = false) ∨ (rng x 3000 = true ∧ rng y 1 = true) := by
  cases rng x 3000 <;> cases rng y 1 <;> simp
theorem pr_needed {x y : Int32} (l : LR h (r, H, P, G, n) m sv tx len B) : Pr L xs h (r, H, P, G, n) m sv tx len B mdL_needed mdX7_needed [.ref 0, .int x, .int y, .ref 160, .null] [.ref 151, .int x, .int y, .null, .null] := by
  rcases tm_c x y with e | ⟨e1, e2⟩
  · exact pr_thr l (by decide) (by omega) (wx_needed1 l.c (a_needed1 l.c e)) (fun h1 c1 => b_needed1 c1 e)
  · exact pr_id l (wo_needed l.c (ev_id l.c (a_needed0 l.c e1 e2))) (fun h1 c1 => b_needed0 c1 e1 e2)
theorem pr_open {x y : Int32} (l : LR h (r, H, P, G, n) m sv tx len B) : Pr L xs h (r, H, P, G, n) m sv tx len B mdL_open mdX7_open [.ref 0, .int x, .int y, .ref 160, .null] [.ref 151, .int x, .int y] := by
  rcases tm_c x y with e | ⟨e1, e2⟩
  · exact pr_thr l (by decide) (by omega) (wx_open1 l.c (a_open1 l.c e)) (fun h1 c1 => b_open1 c1 e)
  · exact pr_id l (wo_open l.c (a_open0 l.c l.hO e1 e2)) (fun h1 c1 => b_open0 c1 l.hO e1 e2)
theorem pr_standing {w x y : Int32} (l : LR h (r, H, P, G, n) m sv tx len B) : Pr L xs h (r, H, P, G, n) m sv tx len B mdL_standing mdX7_standing [.ref 0, .int w, .int x, .int y, .ref 160, .null] [.ref 151, .int w, .int x, .int y, .null] := by
  have P8 := l.P8
  cases e0 : inR w P with
  | false => exact pr_thr l (by decide) (by omega) (wx_standing1 l.c (a_standing1 l.c e0)) (fun h1 c1 => b_standing1 c1 e0)
  | true =>
    rcases tm_c x y with e | ⟨e1, e2⟩
    · exact pr_thr l (by decide) (by omega) (wx_standing2 l.c (a_standing2 l.c e0 e)) (fun h1 c1 => b_standing2 c1 e0 e)
    · obtain ⟨p, hp, rfl⟩ := inR_nat (by omega) e0
      exact pr_id l (wo_standing l.c (a_standing0 l.c l.hO hp e1 e2)) (fun h1 c1 => b_standing0 c1 l.hO hp e1 e2)
theorem pr_best {x y w : Int32} (l : LR h (r, H, P, G, n) m sv tx len B) : Pr L xs h (r, H, P, G, n) m sv tx len B mdL_best mdX7_best [.ref 0, .int x, .int y, .int w, .ref 160, .null] [.ref 151, .int x, .int y, .int w, .null, .null, .null, .null] := by
  have P8 := l.P8
  by_cases e : rng x 3000 = false ∨ rng y 1 = false ∨ rng w 1 = false
  · exact pr_thr l (by decide) (by omega) (wx_best1 l.c (a_best1 l.c e)) (fun h1 c1 => b_best1 c1 e)
  · have e1 : rng x 3000 = true := by
      cases z : rng x 3000 with
      | true => rfl
      | false => exact absurd (Or.inl z) e
    have e2 : rng y 1 = true := by
      cases z : rng y 1 with
      | true => rfl
      | false => exact absurd (Or.inr (Or.inl z)) e
    have e3 : rng w 1 = true := by
      cases z : rng w 1 with
      | true => rfl
      | false => exact absurd (Or.inr (Or.inr z)) e
    obtain ⟨z, ez, k, v, bs, ok⟩ := a_best0 (L := L) (xs := xs) l.c l.hO l.ok e1 e2 e3
    refine pr_id l (wo_best l.c ⟨z, ez, ok⟩) (fun h1 c1 => ?_)
    obtain ⟨z9, ez9, b, bm, ok9⟩ := b_best0 (L := L) (xs := xs) c1 l.hO e1 e2 e3
    refine ⟨z9, ez9, ?_⟩
    have be := best_eq (k := k) (v := v) P8 (fun T hT hV => VG_fin G T hT hV) bs.1 bs.2 bm.1 bm.2.1 bm.2.2
    obtain ⟨c, hc, _, pk, _⟩ := bs.1
    have cl := cnt_le (lk := lkS (nee r H x y) (ownL r (wl r x) (nee r H x y) G)) P
    have kC := popc_lt (c := c) (k := cnt (lkS (nee r H x y) (ownL r (wl r x) (nee r H x y) G)) P) (by omega) hc
    have eq9 : (if w = nI 0 then nI (cnt (lkS (nee r H x y) (ownL r (wl r x) (nee r H x y) G)) P - k) else nI v) = (if w = nI 0 then nI (cnt (lkS (nee r H x y) (ownL r (wl r x) (nee r H x y) G)) P) - nI (popc b) else nI (bestV r (ownL r (wl r x) (nee r H x y) G) (nee r H x y) P G b)) := by
      have e5 : nI (cnt (lkS (nee r H x y) (ownL r (wl r x) (nee r H x y) G)) P) - nI (popc b) = nI (cnt (lkS (nee r H x y) (ownL r (wl r x) (nee r H x y) G)) P - k) := by rw [nI_sub (by omega), be.1]
      rw [e5, be.2]
      rfl
    rw [eq9]
    exact ok9
theorem pr_missed {x y : Int32} (l : LR h (r, H, P, G, n) m sv tx len B) : Pr L xs h (r, H, P, G, n) m sv tx len B mdL_missed mdX7_missed [.ref 0, .int x, .int y, .ref 160, .null] [.ref 151, .int x, .int y, .null, .null] := by
  have G10 := l.G10
  cases e1 : inR x G with
  | false => exact pr_thr l (by decide) (by omega) (wx_missed1 l.c (a_missed1 l.c e1)) (fun h1 c1 => b_missed1 c1 e1)
  | true =>
    cases e2 : rng y 3000 with
    | false => exact pr_thr l (by decide) (by omega) (wx_missed2 l.c (a_missed2 l.c e1 e2)) (fun h1 c1 => b_missed2 c1 e1 e2)
    | true =>
      obtain ⟨g, hg, rfl⟩ := inR_nat (by omega) e1
      have a0 := a_missed0 (L := L) (xs := xs) l.c l.hO hg e2
      rw [missed_eq G10 l.P8 l.H6 l.hO e2] at a0
      exact pr_id l (wo_missed l.c a0) (fun h1 c1 => b_missed0 c1 l.hO hg e2)
theorem pr_bestHome {y : Int32} (l : LR h (r, H, P, G, n) m sv tx len B) : Pr L xs h (r, H, P, G, n) m sv tx len B mdL_bestHome mdX7_bestHome [.ref 0, .int y, .ref 160, .null] [.ref 151, .int y, .null, .null, .null, .null] := by
  have G10 := l.G10
  cases e2 : rng y 3000 with
  | false => exact pr_thr l (by decide) (by omega) (wx_bestHome1 l.c (a_home1 l.c e2)) (fun h1 c1 => b_home1 c1 e2)
  | true =>
    by_cases e : G < 10
    · exact pr_id l (wo_bestHome l.c (a_home0 l.c l.hO e2 e)) (fun h1 c1 => b_home0 c1 l.hO e2 e)
    · have e3 : G = 10 := by omega
      exact pr_thr l (by decide) (by omega) (wx_bestHome2 l.c (a_home2 l.c e2 e3)) (fun h1 c1 => b_home2 c1 e2 e3)
theorem pr_append {x : Int32} (l : LR h (r, H, P, G, n) m sv tx len B) : Pr L xs h (r, H, P, G, n) m sv tx len B mdL_append mdX7_append [.ref 0, .int x, .ref 160, .null] [.ref 151, .int x] := by
  have l9 := l.c.l9
  by_cases e : nI 0 ≤ x ∧ x ≤ nI 127
  · by_cases e2 : len < 90
    · exact pr_ok (wo_append l.c (a_append0 l.c e e2)) (fun h1 c1 => b_append0 c1 e e2) (l.2.2.1.mono (by omega)) (fun i hi => (l.2.2.2 i hi).mono (by omega))
    · have e3 : len = 90 := by omega
      exact pr_thr l (by decide) (by omega) (wx_append2 l.c (a_append2 l.c e e3)) (fun h1 c1 => b_append2 c1 e e3)
  · exact pr_thr l (by decide) (by omega) (wx_append1 l.c (a_append1 l.c e)) (fun h1 c1 => b_append1 c1 e)
theorem CR.agr {r' : Rw} {t : Nat × Nat × Nat × Nat} (c : CR h (r, t) m sv tx len) (a : agr r r') : CR h (r', t) m sv tx len := by
  obtain ⟨c1, c2, c3, c4⟩ := c
  exact ⟨c1, c2, Rl.agr c3 a, c4⟩
theorem pr_undo (l : LR h (r, H, P, G, n) m sv tx len B) : Pr L xs h (r, H, P, G, n) m sv tx len B mdL_undo mdX7_undo [.ref 0, .ref 160, .null] [.ref 151, .null] := by
  cases m with
  | zero => exact pr_thr l (by decide) (by omega) (wx_undo1 l.c (a_undo1 l.c rfl)) (fun h1 c1 => b_undo1 c1)
  | succ k =>
    have so := l.mr.so (i := k) (by omega)
    have ivk := l.2.2.2 k (by omega)
    obtain ⟨z, ez, h9, e9, f9, g1, g2, c9⟩ := a_undo0 (L := L) (xs := xs) l.c
    have c8 : CR h9 (cutR (sv k).1 r, (sv k).2) k sv tx len := CR.agr (r := (sv k).1) (t := (sv k).2) c9 cut_agr
    refine pr_ok (wo_undo l.c ⟨z, ez, h9, e9, f9, g1, g2, c8⟩) (fun h1 c1 => b_undo0 c1) ⟨(Iv_agr (cut_agr (r := r)) so.2.1 so.2.2.1 ivk.1).up (by omega), ivk.2⟩ (fun i hi => (l.2.2.2 i (by omega)).mono (by omega))
end
