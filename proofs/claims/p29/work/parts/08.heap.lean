/-! THE ROWS OF THE HEAP -/
section
variable {l : Launch} {L : Nat} {xs : Nat → Int32} {m : MD} {pc : Nat} {Ls st : List Value} {h : AH} {r : Res}
theorem cont_obj {ca : Nat → ClassId} {A : Nat → Nat} {h : AH} {i k : Nat} (hk : hK h i = k) (h8 : k < 8) : cont ca A h i = .inr (k, (List.range (cN k)).map (fvl A h k i)) := by
  subst hk
  unfold cont
  rw [if_pos h8]
theorem cont_int {ca : Nat → ClassId} {A : Nat → Nat} {h : AH} {i : Nat} (hk : hK h i = 8) : cont ca A h i = .inl (ca 0, hN h i, .inl (hA h i)) := by
  unfold cont
  rw [hk]; rfl
theorem cont_long {ca : Nat → ClassId} {A : Nat → Nat} {h : AH} {i : Nat} (hk : hK h i = 12) : cont ca A h i = .inl (ca 4, hN h i, .inr (.inl (hL h i))) := by
  unfold cont
  rw [hk]; rfl
theorem cont_row {ca : Nat → ClassId} {A : Nat → Nat} {h : AH} {i : Nat} (hk : hK h i = 9 ∨ hK h i = 10 ∨ hK h i = 11) : cont ca A h i = .inl (ca (hK h i - 8), hN h i, .inr (.inr (.inr (.inr (fun j => (hQ h i j).map A))))) := by
  unfold cont
  rw [if_neg (by omega), if_neg (by omega), if_neg (by omega)]
theorem tys_row {ca : Nat → ClassId} {k : Nat} (hk : k = 9 ∨ k = 10 ∨ k = 11) : (tysOf ca)[k - 8]? = some (ca (k - 8), .object (cR (rowK k))) := by
  rcases hk with rfl | rfl | rfl <;> rfl
theorem fields_at {A : Nat → Nat} {h : AH} {k i f : Nat} (hf : f < cN k) : ((List.range (cN k)).map (fvl A h k i))[f]? = some (fvl A h k i f) := by
  rw [List.getElem?_map, List.getElem?_range hf]
  rfl
theorem fvl_int {A : Nat → Nat} {h : AH} {k i f : Nat} (hr : isRf k f = false) : fvl A h k i f = .int (hI h (16 * k + f) i) := by
  unfold fvl; rw [hr]; rfl
theorem fvl_ref {A : Nat → Nat} {h : AH} {k i f j : Nat} (hr : isRf k f = true) (hj : hR h (16 * k + f) i = some j) : fvl A h k i f = .ref (A j) := by
  unfold fvl; rw [hr, hj]; rfl
theorem r_getI {a i k f : Nat} (hd : decode (mB m) pc = .ok (.getfield i, 3)) (hf : fRes (mC m) i = some (k, f)) (ha : a < hn h) (hk : hK h a = k) (hr : isRf k f = false) (K : Sem l L xs m (pc + 3) Ls (.int (hI h (16 * k + f) a) :: st) h r) : Sem l L xs m pc Ls (.ref a :: st) h r := by
  obtain ⟨h8, hfN, hw⟩ := fRes_ok hf
  refine Sem.read (fun D ca b As p e R s mid args below meth c Q A H locs cells slots ls hC hz hP hS k9 => ?_) K
  exact va_get hC.1 hC.2.1 hC.wd (cls_in k h8) hC.own hC.K hP a (by rw [wld_at ha, cont_obj hk h8]) (cls_ok k h8) f hfN (hC.wd _ hw) (fun _ z => z) (by rw [fields_at hfN, fvl_int hr]; rfl) hd k9
theorem r_getR {a i k f j : Nat} (hd : decode (mB m) pc = .ok (.getfield i, 3)) (hf : fRes (mC m) i = some (k, f)) (ha : a < hn h) (hk : hK h a = k) (hr : isRf k f = true) (hj : hR h (16 * k + f) a = some j) (K : Sem l L xs m (pc + 3) Ls (.ref j :: st) h r) : Sem l L xs m pc Ls (.ref a :: st) h r := by
  obtain ⟨h8, hfN, hw⟩ := fRes_ok hf
  refine Sem.read (fun D ca b As p e R s mid args below meth c Q A H locs cells slots ls hC hz hP hS k9 => ?_) K
  exact va_get hC.1 hC.2.1 hC.wd (cls_in k h8) hC.own hC.K hP a (by rw [wld_at ha, cont_obj hk h8]) (cls_ok k h8) f hfN (hC.wd _ hw) (fun _ z => z) (by rw [fields_at hfN, fvl_ref hr hj]; rfl) hd k9
theorem cTy_ref {k f : Nat} (h8 : k < 8) (hf : f < cN k) (hr : isRf k f = true) (a : Nat) : narrow (cTy k f) (.ref a) = .ref a ∧ fits (cTy k f) (.ref a) = true := by
  have h : ∀ k, k < 8 → ∀ f, f < cN k → isRf k f = true → (∃ n, cTy k f = .object n) ∨ ∃ t, cTy k f = .array t := by
    intro k hk f hf hr
    unfold isRf at hr
    cases ht : cTy k f with
    | object n => exact Or.inl ⟨n, rfl⟩
    | array t => exact Or.inr ⟨t, rfl⟩
    | int => rw [ht] at hr; cases hr
    | _ =>
      exfalso
      have z : ∀ k, k < 8 → ∀ f, f < cN k → (cTy k f = .int ∨ (match cTy k f with | .object _ => true | .array _ => true | _ => false) = true) := by decide +kernel
      rcases z k hk f hf with q | q
      · rw [ht] at q; cases q
      · rw [ht] at q; cases q
  rcases h k h8 f hf hr with ⟨n, e⟩ | ⟨t, e⟩ <;> rw [e] <;> exact ⟨rfl, rfl⟩
theorem cTy_int {k f : Nat} (hr : isRf k f = false) : cTy k f = .int := by
  unfold isRf at hr
  split at hr
  · assumption
  · cases hr
theorem set_fld {g g' : Nat → Value} {N f : Nat} {v : Value} (hv : g' f = v) (hne : ∀ j, j ≠ f → g' j = g j) : ((List.range N).map g).set f v = (List.range N).map g' := by
  apply List.ext_getElem?
  intro j
  rw [List.getElem?_set, List.length_map, List.length_range, List.getElem?_map, List.getElem?_map]
  by_cases hj : f = j
  · subst hj
    rw [if_pos rfl]
    split
    · rename_i hl
      rw [List.getElem?_range hl, ← hv]; rfl
    · rename_i hl
      rw [List.getElem?_eq_none (by rw [List.length_range]; omega)]; rfl
  · rw [if_neg hj]
    by_cases hl : j < N
    · rw [List.getElem?_range hl]
      show some (g j) = some (g' j)
      rw [hne j (fun z => hj z.symm)]
    · rw [List.getElem?_eq_none (by rw [List.length_range]; omega)]; rfl
theorem cont_other {ca : Nat → ClassId} {A : Nat → Nat} {h h' : AH} {j : Nat} (e1 : hK h' j = hK h j) (e2 : ∀ F, hI h' F j = hI h F j) (e3 : ∀ F, hR h' F j = hR h F j) (e4 : hN h' j = hN h j) (e5 : hA h' j = hA h j) (e6 : hQ h' j = hQ h j) (e7 : hL h' j = hL h j) : cont ca A h' j = cont ca A h j := by
  have : ∀ k s, fvl A h' k j s = fvl A h k j s := fun k s => by unfold fvl; rw [e2, e3]
  unfold cont
  rw [e1, e4, e5, e6, e7]
  rw [show fvl A h' (hK h j) j = fvl A h (hK h j) j from funext fun s => this _ s]
theorem putOK_spec {k f : Nat} (hp : putOK m k f = true) : (cT k f).2.2.2 = false ∨ ((cT k f).2.2.2 = true ∧ (mN m).name = "<init>" ∧ (mN m).cls = cR k) := by
  unfold putOK at hp
  cases hc : (cT k f).2.2.2 with
  | false => exact Or.inl rfl
  | true =>
    rw [hc] at hp
    simp only [Bool.not_true, Bool.false_or, Bool.and_eq_true, beq_iff_eq] at hp
    exact Or.inr ⟨rfl, hp.1, hp.2⟩
theorem cT_decl : ∀ k, k < 8 → ∀ f, f < cN k → (cT k f).1 = cR k := by decide +kernel
theorem r_put {a i k f : Nat} {v : Value} {h' : AH} (hd : decode (mB m) pc = .ok (.putfield i, 3)) (hf : fRes (mC m) i = some (k, f)) (ha : a < hn h) (hk : hK h a = k) (hp : putOK m k f = true)
    (hv : ∀ (A : Nat → Nat) (b : Nat), narrow (cTy k f) (tv A b v) = tv A b v ∧ fits (cTy k f) (tv A b v) = true ∧ fvl A h' k a f = tv A b v) (e1 : hn h' = hn h) (e2 : hc h' = hc h) (e3 : hs h' = hs h)
    (ek : ∀ j, hK h' j = hK h j) (eN : hN h' = hN h) (eA : hA h' = hA h) (eQ : hQ h' = hQ h) (eL : hL h' = hL h) (eo : ∀ F j, (j ≠ a ∨ F ≠ 16 * k + f) → hI h' F j = hI h F j ∧ hR h' F j = hR h F j)
    (K : Sem l L xs m (pc + 3) Ls st h' r) : Sem l L xs m pc Ls (v :: .ref a :: st) h r := by
  obtain ⟨h8, hfN, hw⟩ := fRes_ok hf
  refine Sem.heap e1 e2 e3 (fun D ca b As p e R s mid args below meth c Q A H locs cells slots ls hC hz hP hD hS k9 => ?_) K
  have hfl : ((List.range (cN k)).map (fvl A h k a)).set f (tv A b v) = (List.range (cN k)).map (fvl A h' k a) :=
    set_fld (hv A b).2.2 (fun j hj => by unfold fvl; rw [(eo (16 * k + j) a (Or.inr (by omega))).1, (eo (16 * k + j) a (Or.inr (by omega))).2])
  have hset : (wld ca A h).set a (A a, .inr (k, ((List.range (cN k)).map (fvl A h k a)).set f (tv A b v))) = wld ca A h' :=
    wld_set e1 (by rw [cont_obj (by rw [ek]; exact hk) h8, hfl]) (fun j hj => cont_other (ek j) (fun F => (eo F j (Or.inl hj)).1) (fun F => (eo F j (Or.inl hj)).2) (by rw [eN]) (by rw [eA]) (by rw [eQ]) (by rw [eL]))
  have kk : ∀ (H1 : Heap) (locs1 : List Loc), va_P D vwCl ((wld ca A h).set a (A a, .inr (k, ((List.range (cN k)).map (fvl A h k a)).set f (tv A b v)))) H1 → va_D As ((wld ca A h).set a (A a, .inr (k, ((List.range (cN k)).map (fvl A h k a)).set f (tv A b v)))) → va_S As s.heap H1 locs1 → W p l e R s mid args below meth c H1 locs1 cells slots Q (F0 mid (pc + 3) ls (st.map (tv A b))) := by
    intro H1 locs1 q1 q2 q3
    rw [hset] at q1 q2
    exact k9 H1 locs1 q1 q2 q3
  have hat : (wld ca A h)[a]? = some (A a, .inr (k, (List.range (cN k)).map (fvl A h k a))) := by rw [wld_at ha, cont_obj hk h8]
  have hlen : f < ((List.range (cN k)).map (fvl A h k a)).length := by simpa using hfN
  rcases putOK_spec hp with hfin | ⟨hfin, hnm, hcl⟩
  · exact va_put hC.1 hC.2.1 hC.wd (cls_in k h8) (cTy k) (cls_ty k h8) (cls_nm k h8) hC.own hC.K hP hD hS a hat (cls_ok k h8) f hfN (hC.wd _ hw) (fun _ z => z) hfin (cls_ty k h8 f hfN) (hv A b).1 (hv A b).2.1 hlen hd kk
  · obtain ⟨hx, hb, hr, hml, hown, hts, hlk, hnm9, htab, hRf, hRl, hK, hG, hZ, hA, hlaw, hcl9, hst⟩ := id hC
    exact va_putF hC.1 hC.2.1 hC.wd (cls_in k h8) (cTy k) (cls_ty k h8) (cls_nm k h8) hC.own hC.K hP hD hS a hat (cls_ok k h8) f hfN (hC.wd _ hw) (fun _ z => z) hfin (hnm9.trans hnm) (by rw [cT_decl k h8 f hfN, ← hcl9, hcl]) (cls_ty k h8 f hfN) (hv A b).1 (hv A b).2.1 hlen hd kk
theorem r_putI {a i k f : Nat} {v : Int32} (hd : decode (mB m) pc = .ok (.putfield i, 3)) (hf : fRes (mC m) i = some (k, f)) (ha : a < hn h) (hk : hK h a = k) (hp : putOK m k f = true) (hr : isRf k f = false) (K : Sem l L xs m (pc + 3) Ls st (sI h (16 * k + f) a v) r) : Sem l L xs m pc Ls (.int v :: .ref a :: st) h r := by
  refine r_put (h' := sI h (16 * k + f) a v) hd hf ha hk hp (fun A b => ?_) rfl rfl rfl (fun _ => rfl) rfl rfl rfl rfl (fun F j hj => ⟨?_, rfl⟩) K
  · rw [cTy_int hr]
    refine ⟨rfl, rfl, ?_⟩
    rw [fvl_int hr]
    show Value.int (u2 (hI h) (16 * k + f) a v (16 * k + f) a) = .int v
    unfold u2
    rw [if_pos ⟨rfl, rfl⟩]
  · show u2 (hI h) (16 * k + f) a v F j = hI h F j
    unfold u2
    rw [if_neg]
    rintro ⟨z1, z2⟩
    rcases hj with hj | hj
    · exact hj z2
    · exact hj z1
theorem r_putR {a i k f v : Nat} (hd : decode (mB m) pc = .ok (.putfield i, 3)) (hf : fRes (mC m) i = some (k, f)) (ha : a < hn h) (hk : hK h a = k) (hp : putOK m k f = true) (hr : isRf k f = true) (K : Sem l L xs m (pc + 3) Ls st (sR h (16 * k + f) a v) r) : Sem l L xs m pc Ls (.ref v :: .ref a :: st) h r := by
  obtain ⟨h8, hfN, hw⟩ := fRes_ok hf
  refine r_put (h' := sR h (16 * k + f) a v) hd hf ha hk hp (fun A b => ?_) rfl rfl rfl (fun _ => rfl) rfl rfl rfl rfl (fun F j hj => ⟨rfl, ?_⟩) K
  · have ht : tv A b (.ref v) = .ref (A v) := rfl
    rw [ht]
    refine ⟨(cTy_ref h8 hfN hr (A v)).1, (cTy_ref h8 hfN hr (A v)).2, ?_⟩
    refine fvl_ref hr ?_
    show u2 (hR h) (16 * k + f) a (some v) (16 * k + f) a = some v
    unfold u2
    rw [if_pos ⟨rfl, rfl⟩]
  · show u2 (hR h) (16 * k + f) a (some v) F j = hR h F j
    unfold u2
    rw [if_neg]
    rintro ⟨z1, z2⟩
    rcases hj with hj | hj
    · exact hj z2
    · exact hj z1
theorem inA_in {i : Int32} {n : Nat} (h : inA i n = true) : vp_in i n := by
  unfold inA at h
  rw [decide_eq_true_eq] at h
  exact h
theorem r_iald {a : Nat} {i : Int32} (hd : decode (mB m) pc = .ok (.iaload, 1)) (ha : a < hn h) (hk : hK h a = 8) (hi : inA i (hN h a) = true) (K : Sem l L xs m (pc + 1) Ls (.int (hA h a i.toNatClampNeg) :: st) h r) : Sem l L xs m pc Ls (.int i :: .ref a :: st) h r := by
  refine Sem.read (fun D ca b As p e R s mid args below meth c Q A H locs cells slots ls hC hz hP hS k9 => ?_) K
  exact va_iald hC.1 hC.2.1 hC.K hP a 0 (by rw [wld_at ha, cont_int hk]) rfl (inA_in hi) hd k9
theorem r_aald {a j : Nat} {i : Int32} (hd : decode (mB m) pc = .ok (.aaload, 1)) (ha : a < hn h) (hk : hK h a = 9 ∨ hK h a = 10 ∨ hK h a = 11) (hi : inA i (hN h a) = true) (hj : hQ h a i.toNatClampNeg = some j) (K : Sem l L xs m (pc + 1) Ls (.ref j :: st) h r) : Sem l L xs m pc Ls (.int i :: .ref a :: st) h r := by
  refine Sem.read (fun D ca b As p e R s mid args below meth c Q A H locs cells slots ls hC hz hP hS k9 => ?_) K
  refine va_aldq hC.1 hC.2.1 hC.K hP a (hK h a - 8) (by rw [wld_at ha, cont_row hk]) (tys_row hk) (inA_in hi) hd ?_
  show W p l e R s mid args below meth c H locs cells slots Q (F0 mid (pc + 1) ls (va_rf ((hQ h a i.toNatClampNeg).map A) :: st.map (tv A b)))
  rw [hj]
  exact k9
theorem r_alen {a : Nat} (hd : decode (mB m) pc = .ok (.arraylength, 1)) (ha : a < hn h) (hk : hK h a = 8) (K : Sem l L xs m (pc + 1) Ls (.int (Int32.ofNat (hN h a)) :: st) h r) : Sem l L xs m pc Ls (.ref a :: st) h r := by
  refine Sem.read (fun D ca b As p e R s mid args below meth c Q A H locs cells slots ls hC hz hP hS k9 => ?_) K
  exact va_alen (x := (hN h a, .inl (hA h a))) hC.1 hC.2.1 hC.K hP a 0 (by rw [wld_at ha, cont_int hk]) rfl rfl hd k9
theorem r_slen {z : Nat} (hd : decode (mB m) pc = .ok (.arraylength, 1)) (hm : mC m = 8) (K : Sem l L xs m (pc + 1) Ls (.int (Int32.ofNat L) :: st) h r) : Sem l L xs m pc Ls (.retAddr z :: st) h r := by
  refine Sem.read (fun D ca b As p e R s mid args below meth c Q A H locs cells slots ls hC hz hP hS k9 => ?_) K
  obtain ⟨hx, hb, hr, hml, hown, hts, hlk, hnm9, htab, hRf, hRl, hK, hG, hZ, hA, hlaw, hcl9, hst⟩ := id hC
  obtain ⟨q1, q2, q3⟩ := hlaw hm
  exact va_slen hC.1 hC.2.1 q1 q2 q3 hS hd k9
theorem r_sald {z : Nat} {i : Int32} (hd : decode (mB m) pc = .ok (.iaload, 1)) (hm : mC m = 8) (hi : inA i L = true) (K : Sem l L xs m (pc + 1) Ls (.int (xs i.toNatClampNeg) :: st) h r) : Sem l L xs m pc Ls (.int i :: .retAddr z :: st) h r := by
  refine Sem.read (fun D ca b As p e R s mid args below meth c Q A H locs cells slots ls hC hz hP hS k9 => ?_) K
  obtain ⟨hx, hb, hr, hml, hown, hts, hlk, hnm9, htab, hRf, hRl, hK, hG, hZ, hA, hlaw, hcl9, hst⟩ := id hC
  obtain ⟨q1, q2, q3⟩ := hlaw hm
  exact va_sld hC.1 hC.2.1 q1 q2 q3 hS (inA_in hi) hd k9
theorem u2_row {α : Type} {f : Nat → Nat → α} {a j : Nat} {v : α} {b : Nat} (h : b ≠ a) : u2 f a j v b = f b := by
  funext z
  unfold u2
  rw [if_neg (fun q => h q.1)]
theorem u2_self {f : Nat → Nat → Int32} {a j : Nat} {v : Int32} : u2 f a j v a = upd (f a) j v := by
  funext z
  unfold u2 upd
  simp
theorem u2_selfL {f : Nat → Nat → Int64} {a j : Nat} {v : Int64} : u2 f a j v a = vp_updL (f a) j v := by
  funext z
  unfold u2 vp_updL
  simp
theorem r_iast {a : Nat} {i v : Int32} (hd : decode (mB m) pc = .ok (.iastore, 1)) (ha : a < hn h) (hk : hK h a = 8) (hi : inA i (hN h a) = true) (K : Sem l L xs m (pc + 1) Ls st (sA h a i.toNatClampNeg v) r) : Sem l L xs m pc Ls (.int v :: .int i :: .ref a :: st) h r := by
  refine Sem.heap (h' := sA h a i.toNatClampNeg v) rfl rfl rfl (fun D ca b As p e R s mid args below meth c Q A H locs cells slots ls hC hz hP hD hS k9 => ?_) K
  have hset : (wld ca A h).set a (A a, .inl (ca 0, hN h a, .inl (upd (hA h a) i.toNatClampNeg v))) = wld ca A (sA h a i.toNatClampNeg v) := by
    refine wld_set rfl ?_ (fun j hj => cont_other rfl (fun _ => rfl) (fun _ => rfl) rfl (u2_row hj) rfl rfl)
    rw [cont_int (h := sA h a i.toNatClampNeg v) hk]
    show _ = Sum.inl (ca 0, hN h a, Sum.inl (u2 (hA h) a i.toNatClampNeg v a))
    rw [u2_self]
  refine va_iast hC.1 hC.2.1 hC.K hP hD hS a 0 (by rw [wld_at ha, cont_int hk]) rfl (inA_in hi) hd (fun H1 locs1 q1 q2 q3 => ?_)
  rw [hset] at q1 q2
  exact k9 H1 locs1 q1 q2 q3
theorem r_aast {a v : Nat} {i : Int32} (hd : decode (mB m) pc = .ok (.aastore, 1)) (ha : a < hn h) (hv : v < hn h) (hk : hK h a = 9 ∨ hK h a = 10 ∨ hK h a = 11) (hi : inA i (hN h a) = true) (hvk : hK h v = rowK (hK h a)) (K : Sem l L xs m (pc + 1) Ls st (sQ h a i.toNatClampNeg v) r) : Sem l L xs m pc Ls (.ref v :: .int i :: .ref a :: st) h r := by
  refine Sem.heap (h' := sQ h a i.toNatClampNeg v) rfl rfl rfl (fun D ca b As p e R s mid args below meth c Q A H locs cells slots ls hC hz hP hD hS k9 => ?_) K
  have h8 : rowK (hK h a) < 8 := by rcases hk with e | e | e <;> rw [e] <;> decide
  have hset : (wld ca A h).set a (A a, .inl (ca (hK h a - 8), hN h a, .inr (.inr (.inr (.inr (va_up (fun j => (hQ h a j).map A) i.toNatClampNeg (some (A v)))))))) = wld ca A (sQ h a i.toNatClampNeg v) := by
    refine wld_set rfl ?_ (fun j hj => cont_other rfl (fun _ => rfl) (fun _ => rfl) rfl rfl (u2_row hj) rfl)
    rw [cont_row (h := sQ h a i.toNatClampNeg v) hk]
    show _ = Sum.inl (ca (hK h a - 8), hN h a, Sum.inr (Sum.inr (Sum.inr (Sum.inr (fun j => (u2 (hQ h) a i.toNatClampNeg (some v) a j).map A)))))
    congr 7
    funext j
    unfold va_up u2
    by_cases hj : j = i.toNatClampNeg
    · rw [if_pos hj, if_pos ⟨rfl, hj⟩]; rfl
    · rw [if_neg hj, if_neg (fun q => hj q.2)]
  refine va_astq hC.1 hC.2.1 hC.K hP hD hS a (hK h a - 8) v (rowK (hK h a)) (r := (cR (rowK (hK h a)), cT (rowK (hK h a)), cN (rowK (hK h a)))) (by rw [wld_at ha, cont_row hk]) (tys_row hk) (by rw [wld_at hv, cont_obj hvk h8]) (cls_ok _ h8) (inA_in hi) hd (fun H1 locs1 q1 q2 q3 => ?_)
  rw [hset] at q1 q2
  exact k9 H1 locs1 q1 q2 q3
theorem r_copy {a d : Nat} {sp dp n : Int32} {i : Nat} (hd : decode (mB m) pc = .ok (.invokestatic i, 3)) (ha : a < hn h) (hdd : d < hn h) (h0 : 2 ≤ mV m) (hw : wds st ≤ 8) (hk : hK h a = 8) (hk2 : hK h d = 8) (h1 : 0 ≤ sp) (h2 : 0 ≤ dp) (h3 : 0 ≤ n) (h4 : sp.toNatClampNeg + n.toNatClampNeg ≤ hN h a) (h5 : dp.toNatClampNeg + n.toNatClampNeg ≤ hN h d)
    (hcp : Cond.methodLink (ow (mC m)) i arraycopyName ∈ GW ∧ Cond.native arraycopyName ∈ GW ∧ Cond.static arraycopyName ∈ GW ∧ Cond.initialized "java/lang/System" ∈ GW)
    (K : Sem l L xs m (pc + 3) Ls st (cpA h a sp.toNatClampNeg d dp.toNatClampNeg n.toNatClampNeg) r) : Sem l L xs m pc Ls (.int n :: .int dp :: .ref d :: .int sp :: .ref a :: st) h r := by
  refine Sem.heap (h' := cpA h a sp.toNatClampNeg d dp.toNatClampNeg n.toNatClampNeg) rfl rfl rfl (fun D ca b As p e R s mid args below meth c Q A H locs cells slots ls hC hz hP hD hS k9 => ?_) K
  have hset : (wld ca A h).set d (A d, .inl (ca 0, hN h d, .inl (va_cpy (hA h a) (hA h d) sp.toNatClampNeg dp.toNatClampNeg n.toNatClampNeg))) = wld ca A (cpA h a sp.toNatClampNeg d dp.toNatClampNeg n.toNatClampNeg) := by
    refine wld_set rfl ?_ (fun j hj => cont_other rfl (fun _ => rfl) (fun _ => rfl) rfl ?_ rfl rfl)
    · rw [cont_int (h := cpA h a sp.toNatClampNeg d dp.toNatClampNeg n.toNatClampNeg) hk2]
      show _ = Sum.inl (ca 0, hN h d, Sum.inl (fun j => if d = d then va_cpy (hA h a) (hA h d) sp.toNatClampNeg dp.toNatClampNeg n.toNatClampNeg j else hA h d j))
      exact congrArg (fun f => Sum.inl (ca 0, hN h d, Sum.inl f)) (funext fun j => (if_pos rfl).symm)
    · funext z
      show (if j = d then va_cpy (hA h a) (hA h d) sp.toNatClampNeg dp.toNatClampNeg n.toNatClampNeg z else hA h j z) = hA h j z
      rw [if_neg hj]
  obtain ⟨hx, hb, hr, hml, hown, hts, hlk, hnm9, htab, hRf, hRl, hK, hG, hZ, hA9, hlaw, hcl9, hst⟩ := id hC
  refine va_copyi (s := s) (ty := .int) hC.1 hC.2.1 (by rw [hml, hz]) hC.own (hts _ hcp.1) (hts _ hcp.2.1) (hts _ hcp.2.2.1) (hts _ hcp.2.2.2) hC.K hP hD hS a d 0 0 (by rw [wld_at ha, cont_int hk]) (by rw [wld_at hdd, cont_int hk2]) rfl rfl rfl (Int32.not_lt.mpr h1) (Int32.not_lt.mpr h2) (Int32.not_lt.mpr h3) h4 h5 (fun _ _ => rfl) (by rw [hRf]; omega) ?_ hd (fun H1 locs1 q1 q2 q3 => ?_)
  · refine Nat.le_trans ?_ hRl
    have e : nativeFrameWords "java/lang/System" "arraycopy" 5 + 11 ≤ 31 := by decide +kernel
    have e2 : ((st.map (tv A b)).map fun v => v.category).sum = wds st := by
      unfold wds
      rw [List.map_map]
      congr 2
      funext v
      exact tv_cat A b v
    omega
  · rw [hset] at q1 q2
    exact k9 H1 locs1 q1 q2 q3
theorem wds_tv (A : Nat → Nat) (b : Nat) (st : List Value) : ((st.map (tv A b)).map fun v => v.category).sum = wds st := by
  unfold wds
  rw [List.map_map]
  congr 2
  funext v
  exact tv_cat A b v
theorem r_min {x y : Int32} {i : Nat} (hd : decode (mB m) pc = .ok (.invokestatic i, 3)) (hmo : hc h ≤ hc (rH r) ∧ hs h ≤ hs (rH r)) (h0 : mV m ≠ 0) (hw : wds st ≤ 8)
    (hcp : Cond.methodLink (ow (mC m)) i Lib.Math.min.name ∈ GW ∧ Cond.static Lib.Math.min.name ∈ GW ∧ Cond.initialized "java/lang/Math" ∈ GW ∧ Cond.code Lib.Math.min.name Lib.Math.min.code 2 (some .int) ∈ GW)
    (K : Sem l L xs m (pc + 3) Ls (.int (if y < x then y else x) :: st) h r) : Sem l L xs m pc Ls (.int y :: .int x :: st) h r := by
  intro D ca b As p e R s mid args below meth c Q c0 s0 n0 A0 hC hE A H locs cells slots ls h1 h2 h3 h4 h5 h6
  obtain ⟨hx, hb, hr, hml, hown, hts, hlk, hnm9, htab, hRf, hRl, hK, hG, hZ, hA9, hlaw, hcl9, hst⟩ := id hC
  have q4 := h3.2.2.2.1
  have q5 := h3.2.2.2.2
  exact va_mmin hC.1 hC.2.1 (by rw [hml, h6.1]) hC.own (hts _ hcp.1) (hts _ hcp.2.1) (hts _ hcp.2.2.1) (hts _ hcp.2.2.2) (by rw [hRf]; omega) (by rw [wds_tv]; exact Nat.le_trans (by omega) hRl) (by omega) (by omega) hd (K D ca b As p e R s mid args below meth c Q c0 s0 n0 A0 hC hE A H locs cells slots ls h1 h2 h3 h4 h5 h6)
theorem r_objInit {a i : Nat} (hd : decode (mB m) pc = .ok (.invokespecial i, 3)) (h0 : mV m ≠ 0) (hw : wds st ≤ 8)
    (hcp : Cond.methodLink (ow (mC m)) i objectInit ∈ GW ∧ Cond.instanceMethod objectInit ∈ GW ∧ Cond.code objectInit ⟨#[0xb1]⟩ 1 none ∈ GW)
    (K : Sem l L xs m (pc + 3) Ls st h r) : Sem l L xs m pc Ls (.ref a :: st) h r := by
  refine Sem.read (fun D ca b As p e R s mid args below meth c Q A H locs cells slots ls hC hz hP hS k9 => ?_) K
  obtain ⟨hx, hb, hr, hml, hown, hts, hlk, hnm9, htab, hRf, hRl, hK, hG, hZ, hA9, hlaw, hcl9, hst⟩ := id hC
  exact W.objInit hC.1 hC.2.1 hC.own (hts _ hcp.1) (hts _ hcp.2.1) (hts _ hcp.2.2) rfl (by rw [hml]; exact hz) rfl hd (by rw [hRf]; omega) (by show 2 * 0 + _ + 12 ≤ _; rw [wds_tv]; exact Nat.le_trans (by omega) hRl) k9
end
