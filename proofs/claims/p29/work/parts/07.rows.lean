/-! THE ROWS -/
section
variable {l : Launch} {L : Nat} {xs : Nat → Int32} {m : MD} {pc : Nat} {Ls st : List Value} {h : AH} {r : Res}
theorem Sem.read {st' : List Value} {pc' : Nat} (hrow : ∀ (D : va_G) (ca : Nat → ClassId) (b : Nat) (As : Nat → Prop) (p : Program) (e : Env) (R : Room) (s : State) (mid : MethodId) (args : Array Value) (below : List Frame) (meth : Method) (c : Code) (Q : State → Prop) (A : Nat → Nat) (H : Heap) (locs : List Loc) (cells slots : Nat) (ls : Array Slot),
    Cx l L xs m D ca b As p R s mid args meth c → ls.size = mM m → va_P D vwCl (wld ca A h) H → va_S As s.heap H locs → W p l e R s mid args below meth c H locs cells slots Q (F0 mid pc' ls (st'.map (tv A b))) → W p l e R s mid args below meth c H locs cells slots Q (F0 mid pc ls (st.map (tv A b))))
    (k : Sem l L xs m pc' Ls st' h r) : Sem l L xs m pc Ls st h r := by
  intro D ca b As p e R s mid args below meth c Q c0 s0 n0 A0 hC hE A H locs cells slots ls h1 h2 h3 h4 h5 h6
  exact hrow D ca b As p e R s mid args below meth c Q A H locs cells slots ls hC h6.1 h3.1 h3.2.2.1 (k D ca b As p e R s mid args below meth c Q c0 s0 n0 A0 hC hE A H locs cells slots ls h1 h2 h3 h4 h5 h6)
theorem Sem.heap {h' : AH} {st' : List Value} {pc' : Nat} (e1 : hn h' = hn h) (e2 : hc h' = hc h) (e3 : hs h' = hs h) (hrow : ∀ (D : va_G) (ca : Nat → ClassId) (b : Nat) (As : Nat → Prop) (p : Program) (e : Env) (R : Room) (s : State) (mid : MethodId) (args : Array Value) (below : List Frame) (meth : Method) (c : Code) (Q : State → Prop) (A : Nat → Nat) (H : Heap) (locs : List Loc) (cells slots : Nat) (ls : Array Slot),
    Cx l L xs m D ca b As p R s mid args meth c → ls.size = mM m → va_P D vwCl (wld ca A h) H → va_D As (wld ca A h) → va_S As s.heap H locs → (∀ (H1 : Heap) (locs1 : List Loc), va_P D vwCl (wld ca A h') H1 → va_D As (wld ca A h') → va_S As s.heap H1 locs1 → W p l e R s mid args below meth c H1 locs1 cells slots Q (F0 mid pc' ls (st'.map (tv A b)))) → W p l e R s mid args below meth c H locs cells slots Q (F0 mid pc ls (st.map (tv A b))))
    (k : Sem l L xs m pc' Ls st' h' r) : Sem l L xs m pc Ls st h r := by
  intro D ca b As p e R s mid args below meth c Q c0 s0 n0 A0 hC hE A H locs cells slots ls h1 h2 h3 h4 h5 h6
  exact hrow D ca b As p e R s mid args below meth c Q A H locs cells slots ls hC h6.1 h3.1 h3.2.1 h3.2.2.1 (fun H1 locs1 p1 p2 p3 => k D ca b As p e R s mid args below meth c Q c0 s0 n0 A0 hC hE A H1 locs1 cells slots ls (by rw [e1]; exact h1) h2 ⟨p1, p2, p3, by rw [e2]; exact h3.2.2.2.1, by rw [e3]; exact h3.2.2.2.2⟩ h4 h5 h6)
theorem r_iload_n {k : Fin 4} {x : Int32} (hd : decode (mB m) pc = .ok (.iload_n k, 1)) (hv : Ls[(k : Nat)]? = some (.int x)) (K : Sem l L xs m (pc + 1) Ls (.int x :: st) h r) : Sem l L xs m pc Ls st h r :=
  Sem.pure (fun D ca b As p e R s mid args below meth c Q A H locs cells slots ls hC hl hS k9 => lv_iload_n hC.1 hC.2.1 hd rfl (lvO_at hl hv (by intro z; cases z)) k9) K
theorem r_iload {k : Nat} {x : Int32} (hd : decode (mB m) pc = .ok (.iload k, 2)) (hv : Ls[k]? = some (.int x)) (K : Sem l L xs m (pc + 2) Ls (.int x :: st) h r) : Sem l L xs m pc Ls st h r :=
  Sem.pure (fun D ca b As p e R s mid args below meth c Q A H locs cells slots ls hC hl hS k9 => lv_iload hC.1 hC.2.1 hd (lvO_at hl hv (by intro z; cases z)) k9) K
theorem r_lload_n {k : Fin 4} {x : Int64} (hd : decode (mB m) pc = .ok (.lload_n k, 1)) (hv : Ls[(k : Nat)]? = some (.long x)) (K : Sem l L xs m (pc + 1) Ls (.long x :: st) h r) : Sem l L xs m pc Ls st h r :=
  Sem.pure (fun D ca b As p e R s mid args below meth c Q A H locs cells slots ls hC hl hS k9 => lv_lload_n hC.1 hC.2.1 hd rfl (lvO_at hl hv (by intro z; cases z)) k9) K
theorem r_dload {k : Nat} {x : UInt64} (hd : decode (mB m) pc = .ok (.dload k, 2)) (hv : Ls[k]? = some (.double x)) (K : Sem l L xs m (pc + 2) Ls (.double x :: st) h r) : Sem l L xs m pc Ls st h r :=
  Sem.pure (fun D ca b As p e R s mid args below meth c Q A H locs cells slots ls hC hl hS k9 => lv_dload hC.1 hC.2.1 hd (lvO_at hl hv (by intro z; cases z)) k9) K
theorem r_aload_n {k : Fin 4} {x : Nat} (hd : decode (mB m) pc = .ok (.aload_n k, 1)) (hv : Ls[(k : Nat)]? = some (.ref x)) (K : Sem l L xs m (pc + 1) Ls (.ref x :: st) h r) : Sem l L xs m pc Ls st h r :=
  Sem.pure (fun D ca b As p e R s mid args below meth c Q A H locs cells slots ls hC hl hS k9 => lv_aload_n (x := A x) hC.1 hC.2.1 hd rfl (lvO_at hl hv (by intro z; cases z)) k9) K
theorem r_aload {k : Nat} {x : Nat} (hd : decode (mB m) pc = .ok (.aload k, 2)) (hv : Ls[k]? = some (.ref x)) (K : Sem l L xs m (pc + 2) Ls (.ref x :: st) h r) : Sem l L xs m pc Ls st h r :=
  Sem.pure (fun D ca b As p e R s mid args below meth c Q A H locs cells slots ls hC hl hS k9 => lv_aload (x := A x) hC.1 hC.2.1 hd (lvO_at hl hv (by intro z; cases z)) k9) K
theorem r_sload_n {k : Fin 4} {x : Nat} (hd : decode (mB m) pc = .ok (.aload_n k, 1)) (hv : Ls[(k : Nat)]? = some (.retAddr x)) (K : Sem l L xs m (pc + 1) Ls (.retAddr x :: st) h r) : Sem l L xs m pc Ls st h r :=
  Sem.pure (fun D ca b As p e R s mid args below meth c Q A H locs cells slots ls hC hl hS k9 => lv_aload_n (x := b) hC.1 hC.2.1 hd rfl (lvO_at hl hv (by intro z; cases z)) k9) K
theorem r_sload {k : Nat} {x : Nat} (hd : decode (mB m) pc = .ok (.aload k, 2)) (hv : Ls[k]? = some (.retAddr x)) (K : Sem l L xs m (pc + 2) Ls (.retAddr x :: st) h r) : Sem l L xs m pc Ls st h r :=
  Sem.pure (fun D ca b As p e R s mid args below meth c Q A H locs cells slots ls hC hl hS k9 => lv_aload (x := b) hC.1 hC.2.1 hd (lvO_at hl hv (by intro z; cases z)) k9) K
theorem r_istore_n {k : Fin 4} {x : Int32} (hd : decode (mB m) pc = .ok (.istore_n k, 1)) (hk : (k : Nat) < mM m) (hc : catOK Ls k = true) (K : Sem l L xs m (pc + 1) (Ls.set k (.int x)) st h r) : Sem l L xs m pc Ls (.int x :: st) h r :=
  Sem.loc (fun D ca b As p e R s mid args below meth c Q A H locs cells slots ls hC hl k9 => lv_istore_n hC.1 hC.2.1 hd rfl hl hk rfl (fun ls' hl' => k9 ls' (lv_mono hl' (lvO_set1 hc (Or.inr rfl))))) K
theorem r_istore {k : Nat} {x : Int32} (hd : decode (mB m) pc = .ok (.istore k, 2)) (hk : k < mM m) (hc : catOK Ls k = true) (K : Sem l L xs m (pc + 2) (Ls.set k (.int x)) st h r) : Sem l L xs m pc Ls (.int x :: st) h r :=
  Sem.loc (fun D ca b As p e R s mid args below meth c Q A H locs cells slots ls hC hl k9 => lv_istore hC.1 hC.2.1 hd hl hk rfl (fun ls' hl' => k9 ls' (lv_mono hl' (lvO_set1 hc (Or.inr rfl))))) K
theorem r_astore_n {k : Fin 4} {x : Nat} (hd : decode (mB m) pc = .ok (.astore_n k, 1)) (hk : (k : Nat) < mM m) (hc : catOK Ls k = true) (K : Sem l L xs m (pc + 1) (Ls.set k (.ref x)) st h r) : Sem l L xs m pc Ls (.ref x :: st) h r :=
  Sem.loc (fun D ca b As p e R s mid args below meth c Q A H locs cells slots ls hC hl k9 => lv_astore_n (x := A x) hC.1 hC.2.1 hd rfl hl hk rfl (fun ls' hl' => k9 ls' (lv_mono hl' (lvO_set1 hc (Or.inr rfl))))) K
theorem r_astore {k : Nat} {x : Nat} (hd : decode (mB m) pc = .ok (.astore k, 2)) (hk : k < mM m) (hc : catOK Ls k = true) (K : Sem l L xs m (pc + 2) (Ls.set k (.ref x)) st h r) : Sem l L xs m pc Ls (.ref x :: st) h r :=
  Sem.loc (fun D ca b As p e R s mid args below meth c Q A H locs cells slots ls hC hl k9 => lv_astore (x := A x) hC.1 hC.2.1 hd hl hk rfl (fun ls' hl' => k9 ls' (lv_mono hl' (lvO_set1 hc (Or.inr rfl))))) K
theorem r_lstore_n {k : Fin 4} {x : Int64} (hd : decode (mB m) pc = .ok (.lstore_n k, 1)) (hk : (k : Nat) + 1 < mM m) (hc : catOK Ls k = true) (K : Sem l L xs m (pc + 1) ((Ls.set k (.long x)).set (k + 1) .null) st h r) : Sem l L xs m pc Ls (.long x :: st) h r :=
  Sem.loc (fun D ca b As p e R s mid args below meth c Q A H locs cells slots ls hC hl k9 => lv_lstore_n hC.1 hC.2.1 hd rfl hl hk rfl (fun ls' hl' => k9 ls' (lv_mono hl' (lvO_set2 hc rfl)))) K
theorem r_dstore {k : Nat} {x : UInt64} (hd : decode (mB m) pc = .ok (.dstore k, 2)) (hk : k + 1 < mM m) (hc : catOK Ls k = true) (K : Sem l L xs m (pc + 2) ((Ls.set k (.double x)).set (k + 1) .null) st h r) : Sem l L xs m pc Ls (.double x :: st) h r :=
  Sem.loc (fun D ca b As p e R s mid args below meth c Q A H locs cells slots ls hC hl k9 => lv_dstore hC.1 hC.2.1 hd hl hk rfl (fun ls' hl' => k9 ls' (lv_mono hl' (lvO_set2 hc rfl)))) K
theorem r_iinc {k : Nat} {n : Int} {x : Int32} (hd : decode (mB m) pc = .ok (.iinc k n, 3)) (hv : Ls[k]? = some (.int x)) (hk : k < mM m) (hc : catOK Ls k = true) (K : Sem l L xs m (pc + 3) (Ls.set k (.int (x + Int32.ofInt n))) st h r) : Sem l L xs m pc Ls st h r :=
  Sem.loc (fun D ca b As p e R s mid args below meth c Q A H locs cells slots ls hC hl k9 => by
    obtain ⟨j, hj⟩ := List.getElem?_of_mem (mem_lvO (A := A) (b := b) (q := (k, .int x)).mpr ⟨_, hv, (by intro z; cases z), rfl⟩)
    exact lv_iinc hC.1 hC.2.1 hd hl hj rfl hk rfl (fun ls' hl' => k9 ls' (lv_mono hl' (lvO_set1 hc (Or.inr rfl))))) K
theorem r_iconst {n : Int} (hd : decode (mB m) pc = .ok (.iconst n, 1)) (K : Sem l L xs m (pc + 1) Ls (.int (Int32.ofInt n) :: st) h r) : Sem l L xs m pc Ls st h r :=
  Sem.pure (fun D ca b As p e R s mid args below meth c Q A H locs cells slots ls hC hl hS k9 => lv_iconst hC.1 hC.2.1 hd rfl k9) K
theorem r_bipush {n : Int} (hd : decode (mB m) pc = .ok (.bipush n, 2)) (K : Sem l L xs m (pc + 2) Ls (.int (Int8.ofInt n).toInt32 :: st) h r) : Sem l L xs m pc Ls st h r :=
  Sem.pure (fun D ca b As p e R s mid args below meth c Q A H locs cells slots ls hC hl hS k9 => lv_bipush hC.1 hC.2.1 hd rfl k9) K
theorem r_sipush {n : Int} (hd : decode (mB m) pc = .ok (.sipush n, 3)) (K : Sem l L xs m (pc + 3) Ls (.int (Int16.ofInt n).toInt32 :: st) h r) : Sem l L xs m pc Ls st h r :=
  Sem.pure (fun D ca b As p e R s mid args below meth c Q A H locs cells slots ls hC hl hS k9 => lv_sipush hC.1 hC.2.1 hd rfl k9) K
theorem r_lload {k : Nat} {x : Int64} (hd : decode (mB m) pc = .ok (.lload k, 2)) (hv : Ls[k]? = some (.long x)) (K : Sem l L xs m (pc + 2) Ls (.long x :: st) h r) : Sem l L xs m pc Ls st h r :=
  Sem.pure (fun D ca b As p e R s mid args below meth c Q A H locs cells slots ls hC hl hS k9 => lv_lload hC.1 hC.2.1 hd (lvO_at hl hv (by intro z; cases z)) k9) K
theorem r_lstore {k : Nat} {x : Int64} (hd : decode (mB m) pc = .ok (.lstore k, 2)) (hk : k + 1 < mM m) (hc : catOK Ls k = true) (K : Sem l L xs m (pc + 2) ((Ls.set k (.long x)).set (k + 1) .null) st h r) : Sem l L xs m pc Ls (.long x :: st) h r :=
  Sem.loc (fun D ca b As p e R s mid args below meth c Q A H locs cells slots ls hC hl k9 => lv_lstore hC.1 hC.2.1 hd hl hk rfl (fun ls' hl' => k9 ls' (lv_mono hl' (lvO_set2 hc rfl)))) K
theorem r_dconst0 (hd : decode (mB m) pc = .ok (.dconst 0, 1)) (K : Sem l L xs m (pc + 1) Ls (.double FP.dconst0 :: st) h r) : Sem l L xs m pc Ls st h r :=
  Sem.pure (fun D ca b As p e R s mid args below meth c Q A H locs cells slots ls hC hl hS k9 => lv_dconst0 hC.1 hC.2.1 hd k9) K
theorem r_dconst1 (hd : decode (mB m) pc = .ok (.dconst 1, 1)) (K : Sem l L xs m (pc + 1) Ls (.double FP.dconst1 :: st) h r) : Sem l L xs m pc Ls st h r :=
  Sem.pure (fun D ca b As p e R s mid args below meth c Q A H locs cells slots ls hC hl hS k9 => lv_dconst1 hC.1 hC.2.1 hd k9) K
def okI (q : Nat × Nat × Int32 × Nat) : Bool := atW q.2.2.2 (.constant (ow q.1) q.2.1 q.2.2.1)
set_option maxRecDepth 100000 in
theorem iRT_ok : iRT.all okI = true := by decide +kernel
theorem iRes_ok {c i : Nat} {v : Int32} (h : iRes c i = some v) : Cond.constant (ow c) i v ∈ GW := by
  unfold iRes at h
  obtain ⟨q, hq, he⟩ := Option.map_eq_some_iff.mp h
  have hp := List.find?_some hq
  rw [Bool.and_eq_true, beq_iff_eq, beq_iff_eq] at hp
  have ho := List.all_eq_true.mp iRT_ok q (List.mem_of_find?_eq_some hq)
  cases he
  rw [← hp.1, ← hp.2]
  exact atW_mem ho
def okL (q : Nat × Nat × Int64 × Nat) : Bool := atW q.2.2.2 (.constantLong (ow q.1) q.2.1 q.2.2.1)
set_option maxRecDepth 100000 in
theorem lRT_ok : lRT.all okL = true := by decide +kernel
theorem lRes_ok {c i : Nat} {v : Int64} (h : lRes c i = some v) : Cond.constantLong (ow c) i v ∈ GW := by
  unfold lRes at h
  obtain ⟨q, hq, he⟩ := Option.map_eq_some_iff.mp h
  have hp := List.find?_some hq
  rw [Bool.and_eq_true, beq_iff_eq, beq_iff_eq] at hp
  have ho := List.all_eq_true.mp lRT_ok q (List.mem_of_find?_eq_some hq)
  cases he
  rw [← hp.1, ← hp.2]
  exact atW_mem ho
theorem Cx.own {D : va_G} {ca : Nat → ClassId} {b : Nat} {As : Nat → Prop} {p : Program} {R : Room} {s : State} {mid : MethodId} {args : Array Value} {meth : Method} {c : Code} (hC : Cx l L xs m D ca b As p R s mid args meth c) : s.vm.findClass (ow (mC m)) = some mid.cls := by
  obtain ⟨hx, hb, hr, hml, hown, hts, hlk, hnm, htab, hRf, hRl, hK, hG, hZ, hA, hlaw, hcl, hst⟩ := hC
  rw [← hcl]; exact hown
theorem Cx.wd {D : va_G} {ca : Nat → ClassId} {b : Nat} {As : Nat → Prop} {p : Program} {R : Room} {s : State} {mid : MethodId} {args : Array Value} {meth : Method} {c : Code} (hC : Cx l L xs m D ca b As p R s mid args meth c) : ∀ w ∈ GW, w.before args s = true := hC.2.2.2.2.2.1
theorem Cx.K {D : va_G} {ca : Nat → ClassId} {b : Nat} {As : Nat → Prop} {p : Program} {R : Room} {s : State} {mid : MethodId} {args : Array Value} {meth : Method} {c : Code} (hC : Cx l L xs m D ca b As p R s mid args meth c) : va_K D vwCl (tysOf ca) s := hC.2.2.2.2.2.2.2.2.2.2.2.1
theorem r_ldc {j : Nat} {v : Int32} (hd : decode (mB m) pc = .ok (.ldc j, 2)) (hi : iRes (mC m) j = some v) (K : Sem l L xs m (pc + 2) Ls (.int v :: st) h r) : Sem l L xs m pc Ls st h r :=
  Sem.pure (fun D ca b As p e R s mid args below meth c Q A H locs cells slots ls hC hl hS k9 => lv_ldc hC.1 hC.2.1 hC.own (hC.wd _ (iRes_ok hi)) hd k9) K
theorem r_ldcw {j : Nat} {v : Int32} (hd : decode (mB m) pc = .ok (.ldc_w j, 3)) (hi : iRes (mC m) j = some v) (K : Sem l L xs m (pc + 3) Ls (.int v :: st) h r) : Sem l L xs m pc Ls st h r :=
  Sem.pure (fun D ca b As p e R s mid args below meth c Q A H locs cells slots ls hC hl hS k9 => lv_ldcw hC.1 hC.2.1 hC.own (hC.wd _ (iRes_ok hi)) hd k9) K
theorem r_ldc2 {j : Nat} {v : Int64} (hd : decode (mB m) pc = .ok (.ldc2_w j, 3)) (hi : lRes (mC m) j = some v) (K : Sem l L xs m (pc + 3) Ls (.long v :: st) h r) : Sem l L xs m pc Ls st h r :=
  Sem.pure (fun D ca b As p e R s mid args below meth c Q A H locs cells slots ls hC hl hS k9 => lv_ldc2 hC.1 hC.2.1 hC.own (hC.wd _ (lRes_ok hi)) hd k9) K
theorem r_iadd {x y : Int32} (hd : decode (mB m) pc = .ok (.iadd, 1)) (K : Sem l L xs m (pc + 1) Ls (.int (x + y) :: st) h r) : Sem l L xs m pc Ls (.int y :: .int x :: st) h r :=
  Sem.pure (fun D ca b As p e R s mid args below meth c Q A H locs cells slots ls hC hl hS k9 => lv_iadd hC.1 hC.2.1 hd k9) K
theorem r_isub {x y : Int32} (hd : decode (mB m) pc = .ok (.isub, 1)) (K : Sem l L xs m (pc + 1) Ls (.int (x - y) :: st) h r) : Sem l L xs m pc Ls (.int y :: .int x :: st) h r :=
  Sem.pure (fun D ca b As p e R s mid args below meth c Q A H locs cells slots ls hC hl hS k9 => lv_isub hC.1 hC.2.1 hd k9) K
theorem r_imul {x y : Int32} (hd : decode (mB m) pc = .ok (.imul, 1)) (K : Sem l L xs m (pc + 1) Ls (.int (x * y) :: st) h r) : Sem l L xs m pc Ls (.int y :: .int x :: st) h r :=
  Sem.pure (fun D ca b As p e R s mid args below meth c Q A H locs cells slots ls hC hl hS k9 => lv_imul hC.1 hC.2.1 hd k9) K
theorem r_iand {x y : Int32} (hd : decode (mB m) pc = .ok (.iand, 1)) (K : Sem l L xs m (pc + 1) Ls (.int (x &&& y) :: st) h r) : Sem l L xs m pc Ls (.int y :: .int x :: st) h r :=
  Sem.pure (fun D ca b As p e R s mid args below meth c Q A H locs cells slots ls hC hl hS k9 => lv_iand hC.1 hC.2.1 hd k9) K
theorem r_ior {x y : Int32} (hd : decode (mB m) pc = .ok (.ior, 1)) (K : Sem l L xs m (pc + 1) Ls (.int (x ||| y) :: st) h r) : Sem l L xs m pc Ls (.int y :: .int x :: st) h r :=
  Sem.pure (fun D ca b As p e R s mid args below meth c Q A H locs cells slots ls hC hl hS k9 => lv_ior hC.1 hC.2.1 hd k9) K
theorem r_ixor {x y : Int32} (hd : decode (mB m) pc = .ok (.ixor, 1)) (K : Sem l L xs m (pc + 1) Ls (.int (x ^^^ y) :: st) h r) : Sem l L xs m pc Ls (.int y :: .int x :: st) h r :=
  Sem.pure (fun D ca b As p e R s mid args below meth c Q A H locs cells slots ls hC hl hS k9 => lv_ixor hC.1 hC.2.1 hd k9) K
theorem r_ishl {x y : Int32} (hd : decode (mB m) pc = .ok (.ishl, 1)) (K : Sem l L xs m (pc + 1) Ls (.int (x <<< (y &&& 31)) :: st) h r) : Sem l L xs m pc Ls (.int y :: .int x :: st) h r :=
  Sem.pure (fun D ca b As p e R s mid args below meth c Q A H locs cells slots ls hC hl hS k9 => lv_ishl hC.1 hC.2.1 hd k9) K
theorem r_ishr {x y : Int32} (hd : decode (mB m) pc = .ok (.ishr, 1)) (K : Sem l L xs m (pc + 1) Ls (.int (x >>> (y &&& 31)) :: st) h r) : Sem l L xs m pc Ls (.int y :: .int x :: st) h r :=
  Sem.pure (fun D ca b As p e R s mid args below meth c Q A H locs cells slots ls hC hl hS k9 => lv_ishr hC.1 hC.2.1 hd k9) K
theorem r_iushr {x y : Int32} (hd : decode (mB m) pc = .ok (.iushr, 1)) (K : Sem l L xs m (pc + 1) Ls (.int (x.toUInt32 >>> (y.toUInt32 &&& Int32.toUInt32 31)).toInt32 :: st) h r) : Sem l L xs m pc Ls (.int y :: .int x :: st) h r :=
  Sem.pure (fun D ca b As p e R s mid args below meth c Q A H locs cells slots ls hC hl hS k9 => lv_iushr hC.1 hC.2.1 hd rfl k9) K
theorem r_idiv {x y : Int32} (hd : decode (mB m) pc = .ok (.idiv, 1)) (hy : ¬ y = 0) (K : Sem l L xs m (pc + 1) Ls (.int (x / y) :: st) h r) : Sem l L xs m pc Ls (.int y :: .int x :: st) h r :=
  Sem.pure (fun D ca b As p e R s mid args below meth c Q A H locs cells slots ls hC hl hS k9 => lv_idiv hC.1 hC.2.1 hd hy k9) K
theorem r_irem {x y : Int32} (hd : decode (mB m) pc = .ok (.irem, 1)) (hy : ¬ y = 0) (K : Sem l L xs m (pc + 1) Ls (.int (x - x / y * y) :: st) h r) : Sem l L xs m pc Ls (.int y :: .int x :: st) h r :=
  Sem.pure (fun D ca b As p e R s mid args below meth c Q A H locs cells slots ls hC hl hS k9 => lv_irem hC.1 hC.2.1 hd hy k9) K
theorem r_ineg {x : Int32} (hd : decode (mB m) pc = .ok (.ineg, 1)) (K : Sem l L xs m (pc + 1) Ls (.int (-x) :: st) h r) : Sem l L xs m pc Ls (.int x :: st) h r :=
  Sem.pure (fun D ca b As p e R s mid args below meth c Q A H locs cells slots ls hC hl hS k9 => lv_ineg hC.1 hC.2.1 hd k9) K
theorem r_ladd {x y : Int64} (hd : decode (mB m) pc = .ok (.ladd, 1)) (K : Sem l L xs m (pc + 1) Ls (.long (x + y) :: st) h r) : Sem l L xs m pc Ls (.long y :: .long x :: st) h r :=
  Sem.pure (fun D ca b As p e R s mid args below meth c Q A H locs cells slots ls hC hl hS k9 => lv_ladd hC.1 hC.2.1 hd k9) K
theorem r_lmul {x y : Int64} (hd : decode (mB m) pc = .ok (.lmul, 1)) (K : Sem l L xs m (pc + 1) Ls (.long (x * y) :: st) h r) : Sem l L xs m pc Ls (.long y :: .long x :: st) h r :=
  Sem.pure (fun D ca b As p e R s mid args below meth c Q A H locs cells slots ls hC hl hS k9 => lv_lmul hC.1 hC.2.1 hd k9) K
theorem r_i2l {x : Int32} (hd : decode (mB m) pc = .ok (.i2l, 1)) (K : Sem l L xs m (pc + 1) Ls (.long x.toInt64 :: st) h r) : Sem l L xs m pc Ls (.int x :: st) h r :=
  Sem.pure (fun D ca b As p e R s mid args below meth c Q A H locs cells slots ls hC hl hS k9 => lv_i2l hC.1 hC.2.1 hd rfl k9) K
theorem r_i2d {x : Int32} (hd : decode (mB m) pc = .ok (.i2d, 1)) (K : Sem l L xs m (pc + 1) Ls (.double (FP.i2d x) :: st) h r) : Sem l L xs m pc Ls (.int x :: st) h r :=
  Sem.pure (fun D ca b As p e R s mid args below meth c Q A H locs cells slots ls hC hl hS k9 => lv_i2d hC.1 hC.2.1 hd k9) K
theorem r_lcmp {x y : Int64} (hd : decode (mB m) pc = .ok (.lcmp, 1)) (K : Sem l L xs m (pc + 1) Ls (.int (lg_cmp x y) :: st) h r) : Sem l L xs m pc Ls (.long y :: .long x :: st) h r :=
  Sem.pure (fun D ca b As p e R s mid args below meth c Q A H locs cells slots ls hC hl hS k9 => W.lcmp hC.1 hC.2.1 hd k9) K
theorem r_dcmp {x y : UInt64} {o : CmpOp} (hd : decode (mB m) pc = .ok (.dcmp o, 1)) (K : Sem l L xs m (pc + 1) Ls (.int (Op.cmpValue (FP.dcmp x y) o) :: st) h r) : Sem l L xs m pc Ls (.double y :: .double x :: st) h r :=
  Sem.pure (fun D ca b As p e R s mid args below meth c Q A H locs cells slots ls hC hl hS k9 => lv_dcmp hC.1 hC.2.1 hd k9) K
theorem r_ddiv {x y : UInt64} (hd : decode (mB m) pc = .ok (.ddiv, 1)) (hv : FP.ddiv x y &&& 0x7fffffffffffffff ≤ 0x7ff0000000000000) (K : Sem l L xs m (pc + 1) Ls (.double (FP.ddiv x y) :: st) h r) : Sem l L xs m pc Ls (.double y :: .double x :: st) h r :=
  Sem.pure (fun D ca b As p e R s mid args below meth c Q A H locs cells slots ls hC hl hS k9 => lv_ddiv hC.1 hC.2.1 hd hv k9) K
theorem r_dup {v : Value} (hd : decode (mB m) pc = .ok (.dup, 1)) (hv : v.category = 1) (K : Sem l L xs m (pc + 1) Ls (v :: v :: st) h r) : Sem l L xs m pc Ls (v :: st) h r :=
  Sem.pure (fun D ca b As p e R s mid args below meth c Q A H locs cells slots ls hC hl hS k9 => lv_dup hC.1 hC.2.1 hd (by rw [tv_cat]; exact hv) k9) K
theorem r_dup2 {v w : Value} (hd : decode (mB m) pc = .ok (.dup2, 1)) (hv : v.category = 1) (hw : w.category = 1) (K : Sem l L xs m (pc + 1) Ls (v :: w :: v :: w :: st) h r) : Sem l L xs m pc Ls (v :: w :: st) h r :=
  Sem.pure (fun D ca b As p e R s mid args below meth c Q A H locs cells slots ls hC hl hS k9 => lv_dup2_11 hC.1 hC.2.1 hd (by rw [tv_cat]; exact hv) (by rw [tv_cat]; exact hw) k9) K
theorem r_pop {v : Value} (hd : decode (mB m) pc = .ok (.pop, 1)) (hv : v.category = 1) (K : Sem l L xs m (pc + 1) Ls st h r) : Sem l L xs m pc Ls (v :: st) h r :=
  Sem.pure (fun D ca b As p e R s mid args below meth c Q A H locs cells slots ls hC hl hS k9 => lv_pop hC.1 hC.2.1 hd (by rw [tv_cat]; exact hv) k9) K
theorem jok_eq {pc : Nat} {o : Int} (h : jok pc o = true) : (pc : Int) + o = (jmp pc o : Int) := by
  unfold jok at h
  rw [decide_eq_true_eq] at h
  unfold jmp
  omega
theorem r_goto {o : Int} (hd : decode (mB m) pc = .ok (.goto o, 3)) (hj : jok pc o = true) (K : Sem l L xs m (jmp pc o) Ls st h r) : Sem l L xs m pc Ls st h r :=
  Sem.pure (fun D ca b As p e R s mid args below meth c Q A H locs cells slots ls hC hl hS k9 => lv_goto hC.1 hC.2.1 hd (jok_eq hj) k9) K
theorem r_icmp {cd : ClassFile.Cond} {o : Int} {x y : Int32} (hd : decode (mB m) pc = .ok (.if_icmp cd o, 3)) (hj : jok pc o = true) (K : Sem l L xs m (if cmpI cd x y = true then jmp pc o else pc + 3) Ls st h r) : Sem l L xs m pc Ls (.int y :: .int x :: st) h r := by
  refine Sem.pure (fun D ca b As p e R s mid args below meth c Q A H locs cells slots ls hC hl hS k9 => ?_) K
  cases cd <;> simp only [cmpI, decide_eq_true_eq] at k9
  · exact lv_icmp_eq hC.1 hC.2.1 hd (jok_eq hj) (fun hc => by rw [if_pos hc] at k9; exact k9) (fun hc => by rw [if_neg hc] at k9; exact k9)
  · exact lv_icmp_ne hC.1 hC.2.1 hd (jok_eq hj) (fun hc => by rw [if_pos hc] at k9; exact k9) (fun hc => by rw [if_neg (by exact fun z => z hc)] at k9; exact k9)
  · exact lv_icmp_lt hC.1 hC.2.1 hd (jok_eq hj) (fun hc => by rw [if_pos hc] at k9; exact k9) (fun hc => by rw [if_neg hc] at k9; exact k9)
  · exact lv_icmp_ge hC.1 hC.2.1 hd (jok_eq hj) (fun hc => by rw [if_pos hc] at k9; exact k9) (fun hc => by rw [if_neg hc] at k9; exact k9)
  · exact lv_icmp_gt hC.1 hC.2.1 hd (jok_eq hj) (fun hc => by rw [if_pos hc] at k9; exact k9) (fun hc => by rw [if_neg hc] at k9; exact k9)
  · exact lv_icmp_le hC.1 hC.2.1 hd (jok_eq hj) (fun hc => by rw [if_pos hc] at k9; exact k9) (fun hc => by rw [if_neg hc] at k9; exact k9)
theorem r_if {cd : ClassFile.Cond} {o : Int} {x : Int32} (hd : decode (mB m) pc = .ok (.ifCond cd o, 3)) (hj : jok pc o = true) (K : Sem l L xs m (if cmpI cd x 0 = true then jmp pc o else pc + 3) Ls st h r) : Sem l L xs m pc Ls (.int x :: st) h r := by
  refine Sem.pure (fun D ca b As p e R s mid args below meth c Q A H locs cells slots ls hC hl hS k9 => ?_) K
  cases cd <;> simp only [cmpI, decide_eq_true_eq] at k9
  · exact lv_if_eq hC.1 hC.2.1 hd (jok_eq hj) (fun hc => by rw [if_pos hc] at k9; exact k9) (fun hc => by rw [if_neg hc] at k9; exact k9)
  · exact lv_if_ne hC.1 hC.2.1 hd (jok_eq hj) (fun hc => by rw [if_pos hc] at k9; exact k9) (fun hc => by rw [if_neg (by exact fun z => z hc)] at k9; exact k9)
  · exact lv_if_lt hC.1 hC.2.1 hd (jok_eq hj) (fun hc => by rw [if_pos hc] at k9; exact k9) (fun hc => by rw [if_neg hc] at k9; exact k9)
  · exact lv_if_ge hC.1 hC.2.1 hd (jok_eq hj) (fun hc => by rw [if_pos hc] at k9; exact k9) (fun hc => by rw [if_neg hc] at k9; exact k9)
  · exact lv_if_gt hC.1 hC.2.1 hd (jok_eq hj) (fun hc => by rw [if_pos hc] at k9; exact k9) (fun hc => by rw [if_neg hc] at k9; exact k9)
  · exact lv_if_le hC.1 hC.2.1 hd (jok_eq hj) (fun hc => by rw [if_pos hc] at k9; exact k9) (fun hc => by rw [if_neg hc] at k9; exact k9)
theorem r_tsw {d lo hi : Int} {offs : Array Int} {len : Nat} {x : Int32} {o : Int} (hd : decode (mB m) pc = .ok (.tableswitch d lo hi offs, len)) (ho : tswT pc d lo hi offs x = some o) (hj : jok pc o = true) (K : Sem l L xs m (jmp pc o) Ls st h r) : Sem l L xs m pc Ls (.int x :: st) h r := by
  refine Sem.pure (fun D ca b As p e R s mid args below meth c Q A H locs cells slots ls hC hl hS k9 => ?_) K
  unfold tswT at ho
  split at ho
  · rename_i hc
    cases ho
    exact lv_tableOut hC.1 hC.2.1 hd hc (jok_eq hj) k9
  · rename_i hc
    exact lv_tableIn hC.1 hC.2.1 hd (fun z => hc (Or.inl z)) (fun z => hc (Or.inr z)) ho (jok_eq hj) k9
theorem r_lsw {d : Int} {ps : Array (Int × Int)} {len : Nat} {x : Int32} (hd : decode (mB m) pc = .ok (.lookupswitch d ps, len)) (hp : (ps.toList.zip (ps.toList.drop 1)).all (fun q => decide (q.1.1 < q.2.1)) = true) (hj : jok pc (Op.lookupswitch.offset ps.toList d x.toInt) = true) (K : Sem l L xs m (jmp pc (Op.lookupswitch.offset ps.toList d x.toInt)) Ls st h r) : Sem l L xs m pc Ls (.int x :: st) h r :=
  Sem.pure (fun D ca b As p e R s mid args below meth c Q A H locs cells slots ls hC hl hS k9 => lv_lookup hC.1 hC.2.1 hd hp rfl (jok_eq hj) k9) K
end
