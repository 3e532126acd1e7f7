/-! A STEP KEEPS WHAT IS WELL-FORMED -/
section
variable {L : Nat} {xs : Nat → Int32} {m : MD} {pc : Nat} {Ls st : List Value} {h : AH} {r : Res}
def vOK (v : Option Value) : Prop := v = none ∨ (∃ x, v = some (.int x)) ∨ (∃ x, v = some (.long x)) ∨ ∃ x, v = some (.double x)
def OKA (h : AH) (a : Act) : Prop := match a with
  | .inl q => WFl (hn q.2.2.2) q.2.1 ∧ WFl (hn q.2.2.2) q.2.2.1 ∧ WFh q.2.2.2 ∧ hn h ≤ hn q.2.2.2 ∧ hc h ≤ hc q.2.2.2 ∧ hs h ≤ hs q.2.2.2
  | .inr (.inl q) => vOK q.1 ∧ q.2 = h
  | .inr (.inr (.inl q)) => WFl (hn h) q.2.1 ∧ WFl (hn h) q.2.2
  | .inr (.inr (.inr q)) => q.2 = bump h
theorem WFl_nil {n : Nat} : WFl n [] := fun _ h => absurd h List.not_mem_nil
theorem WFl_cons {n : Nat} {v : Value} {l : List Value} : WFl n (v :: l) ↔ (∀ i, v = .ref i → i < n) ∧ WFl n l := by
  constructor
  · intro h
    exact ⟨fun i e => h i (by rw [e]; exact List.mem_cons_self), fun i hi => h i (List.mem_cons_of_mem _ hi)⟩
  · rintro ⟨h1, h2⟩ i hi
    rcases List.mem_cons.mp hi with e | e
    · exact h1 i e.symm
    · exact h2 i e
theorem WFl_app {n : Nat} {l k : List Value} (h1 : WFl n l) (h2 : WFl n k) : WFl n (l ++ k) := fun i hi => (List.mem_append.mp hi).elim (h1 i) (h2 i)
theorem WFl_set {n k : Nat} {v : Value} {l : List Value} (h : WFl n l) (hv : ∀ i, v = .ref i → i < n) : WFl n (l.set k v) := fun i hi => by
  rcases List.mem_or_eq_of_mem_set hi with e | e
  · exact h i e
  · exact hv i e.symm
theorem WFl_le {n k : Nat} {l : List Value} (h : WFl n l) (hk : n ≤ k) : WFl k l := fun i hi => Nat.lt_of_lt_of_le (h i hi) hk
theorem WFl_get {n k : Nat} {v : Value} {l : List Value} (h : WFl n l) (hv : l[k]? = some v) : ∀ i, v = .ref i → i < n := fun i e => h i (e ▸ List.mem_of_getElem? hv)
theorem WFl_take {n k : Nat} {l : List Value} (h : WFl n l) : WFl n (l.take k) := fun i hi => h i (List.mem_of_mem_take hi)
theorem WFl_drop {n k : Nat} {l : List Value} (h : WFl n l) : WFl n (l.drop k) := fun i hi => h i (List.mem_of_mem_drop hi)
theorem WFl_rev {n : Nat} {l : List Value} (h : WFl n l) : WFl n l.reverse := fun i hi => h i (List.mem_reverse.mp hi)
theorem WFl_entL {n k : Nat} {l : List Value} (h : WFl n l) : WFl n (entL l k) := by
  intro i hi
  rcases List.mem_append.mp hi with e | e
  · obtain ⟨v, hv, e⟩ := List.mem_flatMap.mp e
    split at e
    · rcases List.mem_cons.mp e with e | e
      · exact h i (e ▸ hv)
      · rcases List.mem_cons.mp e with e | e
        · cases e
        · cases e
    · rcases List.mem_cons.mp e with e | e
      · exact h i (e ▸ hv)
      · cases e
  · have := List.eq_of_mem_replicate e
    cases this
theorem OKA_go {pc' : Nat} {Ls' st' : List Value} {a : Act} (h1 : WFl (hn h) Ls') (h2 : WFl (hn h) st') (hw : WFh h) (e : actGo pc' Ls' st' h = some a) : OKA h a := by
  cases e
  exact ⟨h1, h2, hw, Nat.le_refl _, Nat.le_refl _, Nat.le_refl _⟩
theorem OKA_heap {pc' : Nat} {Ls' st' : List Value} {h' : AH} {a : Act} (e : actGo pc' Ls' st' h' = some a) (h1 : WFl (hn h) Ls') (h2 : WFl (hn h) st') (hw : WFh h') (e1 : hn h' = hn h) (e2 : hc h' = hc h) (e3 : hs h' = hs h) : OKA h a := by
  cases e
  exact ⟨by show WFl (hn h') _; rw [e1]; exact h1, by show WFl (hn h') _; rw [e1]; exact h2, hw, Nat.le_of_eq e1.symm, Nat.le_of_eq e2.symm, Nat.le_of_eq e3.symm⟩
theorem OKA_make {pc' k len sl : Nat} {st' : List Value} {a : Act} (h1 : WFl (hn h) Ls) (h2 : WFl (hn h) st') (hw : WFh h) (e : actGo pc' Ls (.ref (hn h) :: st') (nw h k len sl) = some a) : OKA h a := by
  cases e
  have en : hn (nw h k len sl) = hn h + 1 := rfl
  refine ⟨by show WFl (hn h + 1) _; exact WFl_le h1 (by omega), ?_, ⟨fun F i j hj => ?_, fun b k9 j hj => ?_⟩, by show hn h ≤ hn h + 1; omega, by show hc h ≤ hc h + 1; omega, by show hs h ≤ hs h + sl; omega⟩
  · show WFl (hn h + 1) _
    exact WFl_cons.mpr ⟨fun i e => by cases e; exact Nat.lt_succ_self _, WFl_le h2 (by omega)⟩
  · have hj' : (if i = hn h then none else hR h F i) = some j := hj
    show j < hn h + 1
    split at hj'
    · cases hj'
    · have := hw.1 F i j hj'; omega
  · have hj' : (if b = hn h then none else hQ h b k9) = some j := hj
    show j < hn h + 1
    split at hj'
    · cases hj'
    · have := hw.2 b k9 j hj'; omega
variable (hL9 : WFl (hn h) Ls) (hS9 : WFl (hn h) st) (hw : WFh h)
theorem ni {n : Nat} {x : Int32} : ∀ i, Value.int x = .ref i → i < n := fun _ e => nomatch e
theorem nl {n : Nat} {x : Int64} : ∀ i, Value.long x = .ref i → i < n := fun _ e => nomatch e
theorem nd {n : Nat} {x : UInt64} : ∀ i, Value.double x = .ref i → i < n := fun _ e => nomatch e
theorem nn {n : Nat} : ∀ i, Value.null = .ref i → i < n := fun _ e => nomatch e
theorem ns {n a : Nat} : ∀ i, Value.retAddr a = .ref i → i < n := fun _ e => nomatch e
end
section
variable {L : Nat} {xs : Nat → Int32} {m : MD} {pc : Nat} {Ls st : List Value} {h : AH} {r : Res} {a : Act}
theorem ok_op2 {f : Int32 → Int32 → Int32} (h1 : WFl (hn h) Ls) (h2 : WFl (hn h) st) (hw : WFh h) (e : op2 f pc Ls st h = some a) : OKA h a := by
  unfold op2 at e
  split at e
  · rw [WFl_cons, WFl_cons] at h2
    exact OKA_go h1 (WFl_cons.mpr ⟨ni, h2.2.2⟩) hw e
  · cases e
theorem ok_opL {f : Int64 → Int64 → Int64} (h1 : WFl (hn h) Ls) (h2 : WFl (hn h) st) (hw : WFh h) (e : opL f pc Ls st h = some a) : OKA h a := by
  unfold opL at e
  split at e
  · rw [WFl_cons, WFl_cons] at h2
    exact OKA_go h1 (WFl_cons.mpr ⟨nl, h2.2.2⟩) hw e
  · cases e
theorem ok_ldI {k d : Nat} (h1 : WFl (hn h) Ls) (h2 : WFl (hn h) st) (hw : WFh h) (e : ldI k d pc Ls st h = some a) : OKA h a := by
  unfold ldI at e
  split at e
  · exact OKA_go h1 (WFl_cons.mpr ⟨ni, h2⟩) hw e
  · cases e
theorem ok_ldL {k d : Nat} (h1 : WFl (hn h) Ls) (h2 : WFl (hn h) st) (hw : WFh h) (e : ldL k d pc Ls st h = some a) : OKA h a := by
  unfold ldL at e
  split at e
  · exact OKA_go h1 (WFl_cons.mpr ⟨nl, h2⟩) hw e
  · cases e
theorem ok_ldD {k d : Nat} (h1 : WFl (hn h) Ls) (h2 : WFl (hn h) st) (hw : WFh h) (e : ldD k d pc Ls st h = some a) : OKA h a := by
  unfold ldD at e
  split at e
  · exact OKA_go h1 (WFl_cons.mpr ⟨nd, h2⟩) hw e
  · cases e
theorem ok_ldA {k d : Nat} (h1 : WFl (hn h) Ls) (h2 : WFl (hn h) st) (hw : WFh h) (e : ldA k d pc Ls st h = some a) : OKA h a := by
  unfold ldA at e
  split at e
  · rename_i hv
    exact OKA_go h1 (WFl_cons.mpr ⟨WFl_get h1 hv, h2⟩) hw e
  · exact OKA_go h1 (WFl_cons.mpr ⟨ns, h2⟩) hw e
  · cases e
theorem ok_stI {n k d : Nat} (h1 : WFl (hn h) Ls) (h2 : WFl (hn h) st) (hw : WFh h) (e : stI n k d pc Ls st h = some a) : OKA h a := by
  unfold stI at e
  split at e
  · split at e
    · rw [WFl_cons] at h2
      exact OKA_go (WFl_set h1 ni) h2.2 hw e
    · cases e
  · cases e
theorem ok_stA {n k d : Nat} (h1 : WFl (hn h) Ls) (h2 : WFl (hn h) st) (hw : WFh h) (e : stA n k d pc Ls st h = some a) : OKA h a := by
  unfold stA at e
  split at e
  · split at e
    · rw [WFl_cons] at h2
      exact OKA_go (WFl_set h1 h2.1) h2.2 hw e
    · cases e
  · cases e
theorem ok_stL {n k d : Nat} (h1 : WFl (hn h) Ls) (h2 : WFl (hn h) st) (hw : WFh h) (e : stL n k d pc Ls st h = some a) : OKA h a := by
  unfold stL at e
  split at e
  · split at e
    · rw [WFl_cons] at h2
      exact OKA_go (WFl_set (WFl_set h1 nl) nn) h2.2 hw e
    · cases e
  · cases e
theorem ok_stD {n k d : Nat} (h1 : WFl (hn h) Ls) (h2 : WFl (hn h) st) (hw : WFh h) (e : stD n k d pc Ls st h = some a) : OKA h a := by
  unfold stD at e
  split at e
  · split at e
    · rw [WFl_cons] at h2
      exact OKA_go (WFl_set (WFl_set h1 nd) nn) h2.2 hw e
    · cases e
  · cases e
theorem ok_getF {c i : Nat} (h1 : WFl (hn h) Ls) (h2 : WFl (hn h) st) (hw : WFh h) (e : getF c i pc Ls st h = some a) : OKA h a := by
  unfold getF at e
  split at e
  · rw [WFl_cons] at h2
    split at e
    · split at e
      · split at e
        · rename_i hj
          exact OKA_go h1 (WFl_cons.mpr ⟨fun i9 e9 => by cases e9; exact hw.1 _ _ _ hj, h2.2⟩) hw e
        · cases e
      · exact OKA_go h1 (WFl_cons.mpr ⟨ni, h2.2⟩) hw e
    · cases e
  · cases e
theorem ok_putF {i : Nat} (h1 : WFl (hn h) Ls) (h2 : WFl (hn h) st) (hw : WFh h) (e : putF m i pc Ls st h = some a) : OKA h a := by
  unfold putF at e
  split at e
  · rw [WFl_cons, WFl_cons] at h2
    split at e
    · exact OKA_heap (h := h) e h1 h2.2.2 ⟨hw.1, hw.2⟩ rfl rfl rfl
    · cases e
  · rename_i v a0 s k f _
    rw [WFl_cons, WFl_cons] at h2
    split at e
    · refine OKA_heap (h := h) e h1 h2.2.2 ⟨fun F i9 j hj => ?_, hw.2⟩ rfl rfl rfl
      have hj' : (if F = 16 * k + f ∧ i9 = a0 then some v else hR h F i9) = some j := hj
      show j < hn h
      split at hj'
      · cases hj'; exact h2.1 _ rfl
      · exact hw.1 _ _ _ hj'
    · cases e
  · cases e
theorem ok_iald {lw : Bool} (h1 : WFl (hn h) Ls) (h2 : WFl (hn h) st) (hw : WFh h) (e : iald L xs lw pc Ls st h = some a) : OKA h a := by
  unfold iald at e
  split at e
  · rw [WFl_cons, WFl_cons] at h2
    split at e
    · exact OKA_go h1 (WFl_cons.mpr ⟨ni, h2.2.2⟩) hw e
    · cases e
  · rw [WFl_cons, WFl_cons] at h2
    split at e
    · exact OKA_go h1 (WFl_cons.mpr ⟨ni, h2.2.2⟩) hw e
    · cases e
  · cases e
theorem ok_alen {lw : Bool} (h1 : WFl (hn h) Ls) (h2 : WFl (hn h) st) (hw : WFh h) (e : alen L lw pc Ls st h = some a) : OKA h a := by
  unfold alen at e
  split at e
  · rw [WFl_cons] at h2
    split at e
    · exact OKA_go h1 (WFl_cons.mpr ⟨ni, h2.2⟩) hw e
    · cases e
  · rw [WFl_cons] at h2
    split at e
    · exact OKA_go h1 (WFl_cons.mpr ⟨ni, h2.2⟩) hw e
    · cases e
  · cases e
theorem ok_iast (h1 : WFl (hn h) Ls) (h2 : WFl (hn h) st) (hw : WFh h) (e : iast pc Ls st h = some a) : OKA h a := by
  unfold iast at e
  split at e
  · rw [WFl_cons, WFl_cons, WFl_cons] at h2
    split at e
    · exact OKA_heap (h := h) e h1 h2.2.2.2 ⟨hw.1, hw.2⟩ rfl rfl rfl
    · cases e
  · cases e
theorem ok_lald (h1 : WFl (hn h) Ls) (h2 : WFl (hn h) st) (hw : WFh h) (e : lald pc Ls st h = some a) : OKA h a := by cases e
theorem ok_last (h1 : WFl (hn h) Ls) (h2 : WFl (hn h) st) (hw : WFh h) (e : last pc Ls st h = some a) : OKA h a := by cases e
theorem ok_aald (h1 : WFl (hn h) Ls) (h2 : WFl (hn h) st) (hw : WFh h) (e : aald pc Ls st h = some a) : OKA h a := by
  unfold aald at e
  split at e
  · rw [WFl_cons, WFl_cons] at h2
    split at e
    · split at e
      · rename_i hj
        exact OKA_go h1 (WFl_cons.mpr ⟨fun i9 e9 => by cases e9; exact hw.2 _ _ _ hj, h2.2.2⟩) hw e
      · cases e
    · cases e
  · cases e
theorem ok_aast (h1 : WFl (hn h) Ls) (h2 : WFl (hn h) st) (hw : WFh h) (e : aast pc Ls st h = some a) : OKA h a := by
  unfold aast at e
  split at e
  · rename_i v i a0 s
    rw [WFl_cons, WFl_cons, WFl_cons] at h2
    split at e
    · refine OKA_heap (h := h) e h1 h2.2.2.2 ⟨hw.1, fun b k9 j hj => ?_⟩ rfl rfl rfl
      have hj' : (if b = a0 ∧ k9 = i.toNatClampNeg then some v else hQ h b k9) = some j := hj
      show j < hn h
      split at hj'
      · cases hj'; exact h2.1 _ rfl
      · exact hw.2 _ _ _ hj'
    · cases e
  · cases e
theorem ok_newO {i : Nat} (h1 : WFl (hn h) Ls) (h2 : WFl (hn h) st) (hw : WFh h) (e : newO m i pc Ls st h = some a) : OKA h a := by
  unfold newO at e
  split at e
  · exact OKA_make h1 h2 hw e
  · split at e
    · split at e
      · split at e
        · split at e
          · cases e; rfl
          · cases e
        · cases e
      · cases e
    · split at e
      · split at e
        · split at e
          · cases e; rfl
          · cases e
        · cases e
      · cases e
    · cases e
theorem ok_newA {t : ArrayType} (h1 : WFl (hn h) Ls) (h2 : WFl (hn h) st) (hw : WFh h) (e : newA t pc Ls st h = some a) : OKA h a := by
  unfold newA at e
  split at e
  · rw [WFl_cons] at h2
    split at e
    · exact OKA_make h1 h2.2 hw e
    · cases e
  · cases e
theorem ok_newQ {i : Nat} (h1 : WFl (hn h) Ls) (h2 : WFl (hn h) st) (hw : WFh h) (e : newQ m i pc Ls st h = some a) : OKA h a := by
  unfold newQ at e
  split at e
  · rw [WFl_cons] at h2
    split at e
    · exact OKA_make h1 h2.2 hw e
    · cases e
  · cases e
theorem ok_clS {y : MD} {mode n : Nat} (h2 : WFl (hn h) st) (e : clS m y mode n st h = some a) : OKA h a := by
  unfold clS at e
  split at e
  · split at e
    · cases e
      exact ⟨WFl_rev (WFl_take h2), WFl_drop h2⟩
    · cases e
  · cases e
theorem ok_clV {y : MD} {n : Nat} (h2 : WFl (hn h) st) (e : clV m y n st h = some a) : OKA h a := by
  unfold clV at e
  split at e
  · rename_i hd
    have h3 := WFl_drop (k := n) h2
    rw [hd, WFl_cons] at h3
    split at e
    · cases e
      exact ⟨WFl_cons.mpr ⟨h3.1, WFl_rev (WFl_take h2)⟩, h3.2⟩
    · cases e
  · cases e
theorem ok_copy (h1 : WFl (hn h) Ls) (h2 : WFl (hn h) st) (hw : WFh h) (e : copy5 m pc Ls st h = some a) : OKA h a := by
  unfold copy5 at e
  split at e
  · rw [WFl_cons, WFl_cons, WFl_cons, WFl_cons, WFl_cons] at h2
    split at e
    · exact OKA_heap (h := h) e h1 h2.2.2.2.2.2 ⟨hw.1, hw.2⟩ rfl rfl rfl
    · cases e
  · cases e
theorem ok_min (h1 : WFl (hn h) Ls) (h2 : WFl (hn h) st) (hw : WFh h) (e : min9 m pc Ls st h = some a) : OKA h a := by
  unfold min9 at e
  split at e
  · rw [WFl_cons, WFl_cons] at h2
    split at e
    · exact OKA_go h1 (WFl_cons.mpr ⟨ni, h2.2.2⟩) hw e
    · cases e
  · cases e
theorem ok_invS {i : Nat} (h1 : WFl (hn h) Ls) (h2 : WFl (hn h) st) (hw : WFh h) (e : invS m i pc Ls st h = some a) : OKA h a := by
  unfold invS at e
  split at e
  · split at e
    · exact ok_copy h1 h2 hw e
    · split at e
      · exact ok_min h1 h2 hw e
      · exact ok_clS h2 e
  · cases e
theorem ok_invV {i : Nat} (h2 : WFl (hn h) st) (e : invV m i st h = some a) : OKA h a := by
  unfold invV at e
  split at e
  · split at e
    · exact ok_clV h2 e
    · cases e
  · cases e
theorem ok_invI {i : Nat} (h1 : WFl (hn h) Ls) (h2 : WFl (hn h) st) (hw : WFh h) (e : invI m i pc Ls st h = some a) : OKA h a := by
  unfold invI at e
  split at e
  · split at e
    · split at e
      · rw [WFl_cons] at h2
        split at e
        · exact OKA_go h1 h2.2 hw e
        · cases e
      · cases e
    · split at e
      · exact ok_clV h2 e
      · cases e
  · cases e
theorem ok_retI (e : retI m st h = some a) : OKA h a := by
  unfold retI at e
  split at e
  · split at e
    · cases e
      exact ⟨Or.inr (Or.inl ⟨_, rfl⟩), rfl⟩
    · cases e
  · cases e
set_option maxHeartbeats 4000000 in
theorem stepI_ok {i : Instr} {len : Nat} (h1 : WFl (hn h) Ls) (h2 : WFl (hn h) st) (hw : WFh h) (e : stepI L xs m pc Ls st h i len = some a) : OKA h a := by
  unfold stepI at e
  split at e <;> first
    | exact ok_ldI h1 h2 hw e
    | exact ok_ldA h1 h2 hw e
    | exact ok_ldL h1 h2 hw e
    | exact ok_ldD h1 h2 hw e
    | exact ok_stI h1 h2 hw e
    | exact ok_stA h1 h2 hw e
    | exact ok_stL h1 h2 hw e
    | exact ok_stD h1 h2 hw e
    | exact ok_getF h1 h2 hw e
    | exact ok_putF h1 h2 hw e
    | exact ok_iald h1 h2 hw e
    | exact ok_iast h1 h2 hw e
    | exact ok_lald h1 h2 hw e
    | exact ok_last h1 h2 hw e
    | exact ok_aald h1 h2 hw e
    | exact ok_aast h1 h2 hw e
    | exact ok_alen h1 h2 hw e
    | exact ok_op2 h1 h2 hw e
    | exact ok_opL h1 h2 hw e
    | exact ok_newO h1 h2 hw e
    | exact ok_newA h1 h2 hw e
    | exact ok_newQ h1 h2 hw e
    | exact ok_invS h1 h2 hw e
    | exact ok_invV h2 e
    | exact ok_invI h1 h2 hw e
    | exact ok_retI e
    | exact OKA_go h1 (WFl_cons.mpr ⟨ni, h2⟩) hw e
    | exact OKA_go h1 h2 hw e
    | (cases e; done)
    | (split at e <;> first
        | exact OKA_go h1 (WFl_cons.mpr ⟨nd, h2⟩) hw e
        | (cases e; done)
        | (split at e <;> first
            | exact OKA_go h1 (WFl_cons.mpr ⟨nd, h2⟩) hw e
            | (cases e; done)))
    | (split at e <;> first
        | exact OKA_go h1 (WFl_cons.mpr ⟨ni, h2⟩) hw e
        | exact OKA_go h1 (WFl_cons.mpr ⟨nl, h2⟩) hw e
        | exact OKA_go h1 (WFl_cons.mpr ⟨nd, h2⟩) hw e
        | exact OKA_go h1 h2 hw e
        | (cases e; done)
        | (rw [WFl_cons] at h2; exact OKA_go h1 (WFl_cons.mpr ⟨ni, h2.2⟩) hw e)
        | (rw [WFl_cons] at h2; exact OKA_go h1 (WFl_cons.mpr ⟨nl, h2.2⟩) hw e)
        | (rw [WFl_cons] at h2; exact OKA_go h1 (WFl_cons.mpr ⟨nd, h2.2⟩) hw e)
        | (rw [WFl_cons, WFl_cons] at h2; exact OKA_go h1 (WFl_cons.mpr ⟨ni, h2.2.2⟩) hw e)
        | (cases e; exact ⟨Or.inl rfl, rfl⟩)
        | (split at e <;> first
            | (cases e; done)
            | (rw [WFl_cons, WFl_cons] at h2; exact OKA_go h1 (WFl_cons.mpr ⟨ni, h2.2.2⟩) hw e)
            | (rw [WFl_cons, WFl_cons] at h2; exact OKA_go h1 (WFl_cons.mpr ⟨nd, h2.2.2⟩) hw e)
            | (rw [WFl_cons, WFl_cons] at h2; exact OKA_go h1 h2.2.2 hw e)
            | (rw [WFl_cons] at h2; exact OKA_go h1 (WFl_cons.mpr ⟨h2.1, WFl_cons.mpr ⟨h2.1, h2.2⟩⟩) hw e)
            | (rw [WFl_cons, WFl_cons] at h2; exact OKA_go h1 (WFl_cons.mpr ⟨h2.1, WFl_cons.mpr ⟨h2.2.1, WFl_cons.mpr ⟨h2.1, WFl_cons.mpr ⟨h2.2.1, h2.2.2⟩⟩⟩⟩) hw e)
            | (rw [WFl_cons] at h2; exact OKA_go h1 h2.2 hw e)
            | exact OKA_go (WFl_set h1 ni) h2 hw e
            | (cases e; exact ⟨Or.inr (Or.inr (Or.inl ⟨_, rfl⟩)), rfl⟩)
            | (cases e; exact ⟨Or.inr (Or.inr (Or.inr ⟨_, rfl⟩)), rfl⟩)
            | (split at e <;> first
              | (cases e; done)
              | (rw [WFl_cons] at h2; exact OKA_go h1 h2.2 hw e))))
theorem stp_ok (h1 : WFl (hn h) Ls) (h2 : WFl (hn h) st) (hw : WFh h) (e : stp L xs m pc Ls st h = some a) : OKA h a := by
  unfold stp at e
  split at e
  · exact stepI_ok h1 h2 hw e
  · cases e
theorem hstep_of {E : String} {q : Nat × List Value} (e : hstep m pc Ls E = some q) : isV m pc = true ∧ hstep0 m pc Ls E = some q := by
  unfold hstep at e
  split at e
  · rename_i hv; exact ⟨hv, e⟩
  · cases e
theorem hstep_ok {E : String} {q : Nat × List Value} {n : Nat} (h1 : WFl n Ls) (e : hstep m pc Ls E = some q) : WFl n q.2 := by
  replace e := (hstep_of e).2
  unfold hstep0 at e
  split at e
  · cases e
  · split at e
    · split at e
      · split at e
        · cases e; exact WFl_set h1 nn
        · cases e
      · split at e
        · cases e; exact WFl_set h1 nn
        · cases e
      · cases e
    · cases e
def RunOK (h : AH) (r : Res) : Prop := WFh (rH r) ∧ hn h ≤ hn (rH r) ∧ hc h ≤ hc (rH r) ∧ hs h ≤ hs (rH r) ∧ (∀ q, r = .inl q → vOK q.1) ∧ ∀ q, r = .inr q → ∃ h1, q.2 = bump h1
theorem vOK_wf {v : Option Value} (hv : vOK v) {n : Nat} : WFl n v.toList := by
  rcases hv with e | ⟨x, e⟩ | ⟨x, e⟩ | ⟨x, e⟩ <;> subst e
  · exact WFl_nil
  · exact WFl_cons.mpr ⟨ni, WFl_nil⟩
  · exact WFl_cons.mpr ⟨nl, WFl_nil⟩
  · exact WFl_cons.mpr ⟨nd, WFl_nil⟩
theorem run_ok : ∀ (n : Nat) (m : MD) (pc : Nat) (Ls st : List Value) (h : AH) (r : Res), WFl (hn h) Ls → WFl (hn h) st → WFh h → run L xs n m pc Ls st h = some r → RunOK h r
  | 0, _, _, _, _, _, _, _, _, _, e => by cases e
  | n + 1, m, pc, Ls, st, h, r, h1, h2, hw, e => by
    unfold run at e
    cases hs9 : stp L xs m pc Ls st h with
    | none => rw [hs9] at e; cases e
    | some a =>
      rw [hs9] at e
      have ho := stp_ok h1 h2 hw hs9
      rcases a with q | q | q | q
      · obtain ⟨o1, o2, o3, o4, o5, o6⟩ := ho
        obtain ⟨p1, p2, p3, p4, p5, p6⟩ := run_ok n _ _ _ _ _ _ o1 o2 o3 e
        exact ⟨p1, Nat.le_trans o4 p2, Nat.le_trans o5 p3, Nat.le_trans o6 p4, p5, p6⟩
      · cases e
        obtain ⟨o1, o2⟩ := ho
        have e2 : rH (.inl q) = h := o2
        refine ⟨by rw [e2]; exact hw, by rw [e2]; exact Nat.le_refl _, by rw [e2]; exact Nat.le_refl _, by rw [e2]; exact Nat.le_refl _, fun q' e9 => by cases e9; exact o1, fun q' e9 => by cases e9⟩
      · obtain ⟨o1, o2⟩ := ho
        replace e : kont (run L xs n q.1 0 (entL q.2.1 (mM q.1)) [] h) (fun v h' => run L xs n m (pc + 3) Ls (v.toList ++ q.2.2) h') (fun E h' => kx (hstep m pc Ls E) (fun pc' Ls' => run L xs n m pc' Ls' [] h')) = some r := e
        cases hr1 : run L xs n q.1 0 (entL q.2.1 (mM q.1)) [] h with
        | none => rw [hr1] at e; cases e
        | some w =>
          rw [hr1] at e
          obtain ⟨p1, p2, p3, p4, p5, p6⟩ := run_ok n _ _ _ _ _ _ (WFl_entL o1) WFl_nil hw hr1
          rcases w with ⟨v, g⟩ | ⟨E, g⟩
          · obtain ⟨s1, s2, s3, s4, s5, s6⟩ := run_ok n _ _ _ _ _ _ (WFl_le h1 p2) (WFl_app (vOK_wf (p5 _ rfl)) (WFl_le o2 p2)) p1 e
            exact ⟨s1, Nat.le_trans p2 s2, Nat.le_trans p3 s3, Nat.le_trans p4 s4, s5, s6⟩
          · cases hh : hstep m pc Ls E with
            | none => simp only [kont, hh, kx] at e; cases e
            | some z =>
              simp only [kont, hh, kx] at e
              obtain ⟨s1, s2, s3, s4, s5, s6⟩ := run_ok n _ _ _ _ _ _ (WFl_le (hstep_ok h1 hh) p2) WFl_nil p1 e
              exact ⟨s1, Nat.le_trans p2 s2, Nat.le_trans p3 s3, Nat.le_trans p4 s4, s5, s6⟩
      · cases e
        have e2 : rH (.inr q) = bump h := ho
        refine ⟨by rw [e2]; exact ⟨hw.1, hw.2⟩, by rw [e2]; exact Nat.le_refl _, by rw [e2]; exact Nat.le_succ _, by rw [e2]; exact Nat.le_add_right _ _, fun q' e9 => (by cases e9), fun q' e9 => (by cases e9; exact ⟨h, ho⟩)⟩
end
