/-! THE ENTRY -/
theorem st_inst : ∀ k, k < 8 → Cond.instantiable (cR k) (cN k) ∈ lw_tbl := by
  have h : ∀ k, k < 8 → decide (Cond.instantiable (cR k) (cN k) ∈ lw_tbl) = true := by decide +kernel
  exact fun k hk => of_decide_eq_true (h k hk)
theorem st_nest : ∀ q ∈ nestL, Cond.methodLinkNest q.1 q.2.1 q.2.2 "CrossingPosts" ∈ lw_tbl ∧ (Cond.methodLinkNest q.1 q.2.1 q.2.2 "CrossingPosts").onTables = true := by
  have h : nestL.all (fun q => decide (Cond.methodLinkNest q.1 q.2.1 q.2.2 "CrossingPosts" ∈ lw_tbl) && (Cond.methodLinkNest q.1 q.2.1 q.2.2 "CrossingPosts").onTables) = true := by decide +kernel
  intro q hq
  have := List.all_eq_true.mp h q hq
  rwa [Bool.and_eq_true, decide_eq_true_eq] at this
theorem st_cast : ∀ E ∈ exL, Cond.castable E E ∈ lw_tbl := by
  have h : exL.all (fun E => decide (Cond.castable E E ∈ lw_tbl)) = true := by decide +kernel
  exact fun E hE => of_decide_eq_true (List.all_eq_true.mp h E hE)
theorem st_decl : ∀ x ∈ declL, Cond.declares x ∈ lw_tbl := by
  have h : declL.all (fun x => decide (Cond.declares x ∈ lw_tbl)) = true := by decide +kernel
  exact fun x hx => of_decide_eq_true (List.all_eq_true.mp h x hx)
theorem st_str : ∀ q ∈ sRT, Cond.stringRef RX6 q.1 q.2 ∈ lw_tbl := by
  have h : sRT.all (fun q => decide (Cond.stringRef RX6 q.1 q.2 ∈ lw_tbl)) = true := by decide +kernel
  exact fun q hq => of_decide_eq_true (List.all_eq_true.mp h q hq)
theorem st_over : ∀ C ∈ [RX0, RX2, RX5], Cond.arrayOver (.object C) ∈ lw_tbl := by
  have h : [RX0, RX2, RX5].all (fun C => decide (Cond.arrayOver (.object C) ∈ lw_tbl)) = true := by decide +kernel
  exact fun C hC => of_decide_eq_true (List.all_eq_true.mp h C hC)
theorem st_ncast : ∀ E ∈ exL, ∀ E' ∈ exN, E ≠ E' → Cond.not (.castable E E') ∈ flatC (Jvm.Cond.and given_1 narrow_1) := fun E _ E' h _ => absurd h List.not_mem_nil
theorem st_own : ∃ n, Cond.instantiable RX6 n ∈ lw_tbl := ⟨7, by decide +kernel⟩
theorem st_GP {b : Nat} {s : State} (hts : ∀ w ∈ lw_tbl, w.before #[Value.ref b] s = true) (hgv : (Jvm.Cond.and given_1 narrow_1).before #[Value.ref b] s = true) : GP s := by
  have hs := flat_of_before _ hgv
  obtain ⟨n6, h6⟩ := st_own
  obtain ⟨c6, k6, f6, -⟩ := Cond.instantiable_spec (hts _ h6)
  refine ⟨fun q hq => va_Nw.of (st_nest q hq).2 (hts _ (st_nest q hq).1), fun E hE => va_Nw.of rfl (hts _ (st_cast E hE)), fun x hx => va_Nw.of rfl (hts _ (st_decl x hx)), fun E hE E' hE' hne => va_Nc.of (hs _ (st_ncast E hE E' hE' hne)), fun q hq => ?_, fun C hC => va_AO.of (hts _ (st_over C hC))⟩
  obtain ⟨k, cf, i, a, -, -, -, -, -, hev⟩ := Cond.stringRef_spec f6 (hts _ (st_str q hq))
  exact ⟨a, vk_R.of (hts _ (st_str q hq)) hev⟩
theorem st_ZQ {b : Nat} {s : State} (hts : ∀ w ∈ lw_tbl, w.before #[Value.ref b] s = true) (hgv : (Jvm.Cond.and given_1 narrow_1).before #[Value.ref b] s = true) : ZQ (fun q : Nat => s.heap.size ≤ q) s s.heap := by
  have hs := flat_of_before _ hgv
  have hini : (Cond.initialized Bundle.tN).before #[Value.ref b] s = true := hts _ (by decide +kernel)
  refine ⟨vx_Zqof (hts _ (by decide +kernel)) hini (hs _ (by decide +kernel)) (fun a h => Nat.not_le.mpr h), vx_Zqof (hts _ (by decide +kernel)) hini (hs _ (by decide +kernel)) (fun a h => Nat.not_le.mpr h)⟩
theorem st_arrP {b : Nat} {s : State} {ty : FieldType} (h : (Cond.arrayClass ty).before #[Value.ref b] s = true) : ∃ cA, ArrOfT s cA ty ∧ s.vm.findClass ("[" ++ ty.toString) = some cA := by
  obtain ⟨cA, kA, comp, f1, f2, f3⟩ := Cond.arrayClass_spec h
  exact ⟨cA, fun N z => ⟨(fun k h => by cases h), kA, f2, comp, f3⟩, f1⟩
theorem st_arrO {b : Nat} {s : State} {C : String} (h : (Cond.arrayOver (.object C)).before #[Value.ref b] s = true) : ∃ cA, ArrOfT s cA (.object C) ∧ va_RA s cA (.object C) := by
  obtain ⟨comp, cA, kA, f1, -, f3, f4, f5⟩ := Cond.arrayOver_spec h
  exact ⟨cA, fun N z => ⟨(fun k h => by cases h), kA, f3, comp, f4⟩, kA, comp, f3, f4, f1, f5⟩
theorem st_K {b : Nat} {s : State} (hts : ∀ w ∈ lw_tbl, w.before #[Value.ref b] s = true) : ∃ (D : va_G) (ca : Nat → ClassId), va_K D vwCl (tysOf ca) s := by
  have hg : ∀ w ∈ GW, w.before #[Value.ref b] s = true := fun w hw => hts w (List.mem_filter.mp hw).1
  have h : ∀ k, ∃ x : ClassId × (Nat → Nat), k < 8 → u_Kn s (cR k) (cT k) (cN k) x.1 x.2 := by
    intro k
    by_cases hk : k < 8
    · obtain ⟨cC, iS, h⟩ := u_known (C := cR k) (T := cT k) (N := cN k) (n := cN k) hg (cls_in k hk) (hts _ (st_inst k hk))
      exact ⟨(cC, iS), fun _ => h⟩
    · exact ⟨(0, fun _ => 0), fun z => absurd z hk⟩
  obtain ⟨c0, a0⟩ := st_arrP (hg _ arr_words)
  obtain ⟨c4, a4⟩ := st_arrP (hg _ arr_words)
  obtain ⟨c1, a1⟩ := st_arrO (hts _ (st_over RX0 (by simp)))
  obtain ⟨c2, a2⟩ := st_arrO (hts _ (st_over RX2 (by simp)))
  obtain ⟨c3, a3⟩ := st_arrO (hts _ (st_over RX5 (by simp)))
  refine ⟨(fun k => (Classical.choose (h k)).1, fun k => (Classical.choose (h k)).2), fun k => match k with | 0 => c0 | 1 => c1 | 2 => c2 | 3 => c3 | _ => c4, fun k q hq => ?_, fun k q hq => ?_⟩
  · have hk : k < 8 := by
      have := (List.getElem?_eq_some_iff.mp hq).1
      exact this
    rw [cls_ok k hk] at hq
    cases hq
    exact Classical.choose_spec (h k) hk
  · match k, hq with
    | 0, hq => cases hq; exact a0
    | 1, hq => cases hq; exact a1
    | 2, hq => cases hq; exact a2
    | 3, hq => cases hq; exact a3
    | 4, hq => cases hq; exact a4
    | k + 5, hq => cases hq
theorem st_run {l : Launch} {L : Nat} {xs : Nat → Int32} (hL : L ≤ 260) (hl : l.stackTraces = false) : ∃ h', Sem l L xs mdL_law 0 (entL [.retAddr 0] 15) [] hE (.inl (some (.int (nI 1)), h')) ∧ hc h' ≤ 800 ∧ hs h' ≤ 9000 := by
  obtain ⟨r, hr, h', rfl, h1, h2⟩ := law_all (L := L) (xs := xs) (z := 0) hL
  obtain ⟨n, hn9⟩ := (ev_iff L xs).mp hr
  have hw0 : WFl (hn hE) [Value.retAddr 0] := fun i hi => by simp at hi
  refine ⟨h', sound hl n _ _ _ _ _ _ (WFl_entL hw0) WFl_nil ⟨fun F i j h => (by cases h), fun a k j h => (by cases h)⟩ hn9, h1, h2⟩
theorem whole_start {p : Program} {e : Env} {s : State} {m : MethodId} {below : List Frame} {meth : Method} {c : Code} (l : Launch) (hflags : l.flags = flags0) {b L : Nat} {xs : Nat → Int32} (hL : L ≤ 260) (C0 : lw_At p s m meth c b L xs) (hnm : meth.name = x.name) (htab : c.exceptionTable.toList = []) : W p l e room_1 s m #[Value.ref b] below meth c s.heap [] 0 0 (lw_Z below #[Value.ref b] s) (entryFrame m ([Value.ref b] : List Value).toArray 15) := by
  obtain ⟨hx, hb, hr, hml, hown, hts, hX, hbl, hlocks, hgv⟩ := id C0
  have hl : l.stackTraces = false := by
    unfold Launch.stackTraces
    rw [hflags]
    first | rfl | decide | decide +kernel
  obtain ⟨D, ca, hK9⟩ := st_K hts
  obtain ⟨h', hS, h1, h2⟩ := st_run (l := l) (xs := xs) hL hl
  have hl0 := lv_entry ([Value.ref b]) (n := 15) (Nat.le_of_ble_eq_true rfl)
  rw [lg_entry_eq]
  have hC : Cx l L xs mdL_law D ca b (fun q : Nat => s.heap.size ≤ q) p room_1 s m #[Value.ref b] meth c := ⟨hx, hb, hr, hml, hown, fun w hw => hts w (List.mem_filter.mp hw).1, hlocks, hnm, htab, rfl, (by decide), hK9, st_GP hts hgv, st_ZQ hts hgv, fun q hq => hq, fun _ => ⟨hX, hbl, Nat.not_le.mpr hbl⟩, rfl, hl⟩
  refine hS D ca b _ p e room_1 s m _ below meth c _ 0 0 0 (fun _ => 0) hC ⟨?_, ?_⟩ (fun _ => 0) s.heap [] 0 0 _ (Nat.le_refl _) (fun _ _ => rfl) ⟨?_, ?_, va_S.rf, rfl, rfl⟩ (by show hc h' ≤ 600130 + 0; omega) (by show hs h' ≤ 7301080 + 0; omega) (lv_mono hl0 (fun q hq => entL_args hq))
  · intro A H locs cells slots pc ls v g he _ hpos hret
    cases he
    obtain ⟨hP, hD, hS9, h4, h5⟩ := hpos
    obtain ⟨hd, -⟩ := hret
    refine va_forget (fun q hq => hS9.2.2 q hq) (W.widen (k := 600130) (n := 7301080) (by omega) (by omega) (W.base ?_))
    exact lw_ret (Drawn.sameBut.refl s.drawn lw_cs) hx hb hr hlocks hd
  · intro A H locs cells slots pc ls E g he
    cases he
  · intro k q hq
    cases hq
  · exact ⟨fun i j p q h => (by cases h), fun k q h => (by cases h)⟩
