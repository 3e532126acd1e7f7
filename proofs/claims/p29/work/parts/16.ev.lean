/-- a call's outcome goes on -/
noncomputable def kn (L : Nat) (xs : Nat → Int32) (m : MD) (pc pc' : Nat) (Ls st : List Value) (r : Option Res) : Option Res := kont r (fun v h' => ev L xs m pc' Ls (v.toList ++ st) h') (fun E h' => kx (hstep m pc Ls E) (fun pc2 Ls2 => ev L xs m pc2 Ls2 [] h'))
/-! THE VALUE OF A RUN, an instruction at a time -/
section
variable {L : Nat} {xs : Nat → Int32} {m y : MD} {pc i n : Nat} {Ls st : List Value} {h : AH}
theorem ev_stp {pc' : Nat} {Ls' st' : List Value} {h' : AH} {I : Instr} {len : Nat} (hd : decode (mB m) pc = .ok (I, len)) (hs : stepI L xs m pc Ls st h I len = some (.inl (pc', Ls', st', h'))) : ev L xs m pc Ls st h = ev L xs m pc' Ls' st' h' :=
  ev_go L xs (q := (pc', Ls', st', h')) (by unfold stp; rw [hd]; exact hs)
theorem e_iload_n {k : Fin 4} {x : Int32} (hd : decode (mB m) pc = .ok (.iload_n k, 1)) (hv : Ls[(k : Nat)]? = some (.int x)) : ev L xs m pc Ls st h = ev L xs m (pc + 1) Ls (.int x :: st) h := ev_stp hd (by show ldI k 1 pc Ls st h = _; unfold ldI; rw [hv])
theorem e_iload {k : Nat} {x : Int32} (hd : decode (mB m) pc = .ok (.iload k, 2)) (hv : Ls[k]? = some (.int x)) : ev L xs m pc Ls st h = ev L xs m (pc + 2) Ls (.int x :: st) h := ev_stp hd (by show ldI k 2 pc Ls st h = _; unfold ldI; rw [hv])
theorem e_aload_n {k : Fin 4} {x : Nat} (hd : decode (mB m) pc = .ok (.aload_n k, 1)) (hv : Ls[(k : Nat)]? = some (.ref x)) : ev L xs m pc Ls st h = ev L xs m (pc + 1) Ls (.ref x :: st) h := ev_stp hd (by show ldA k 1 pc Ls st h = _; unfold ldA; rw [hv])
theorem e_aload {k : Nat} {x : Nat} (hd : decode (mB m) pc = .ok (.aload k, 2)) (hv : Ls[k]? = some (.ref x)) : ev L xs m pc Ls st h = ev L xs m (pc + 2) Ls (.ref x :: st) h := ev_stp hd (by show ldA k 2 pc Ls st h = _; unfold ldA; rw [hv])
theorem e_sload_n {k : Fin 4} {x : Nat} (hd : decode (mB m) pc = .ok (.aload_n k, 1)) (hv : Ls[(k : Nat)]? = some (.retAddr x)) : ev L xs m pc Ls st h = ev L xs m (pc + 1) Ls (.retAddr x :: st) h := ev_stp hd (by show ldA k 1 pc Ls st h = _; unfold ldA; rw [hv])
theorem e_lload_n {k : Fin 4} {x : Int64} (hd : decode (mB m) pc = .ok (.lload_n k, 1)) (hv : Ls[(k : Nat)]? = some (.long x)) : ev L xs m pc Ls st h = ev L xs m (pc + 1) Ls (.long x :: st) h := ev_stp hd (by show ldL k 1 pc Ls st h = _; unfold ldL; rw [hv])
theorem e_lload {k : Nat} {x : Int64} (hd : decode (mB m) pc = .ok (.lload k, 2)) (hv : Ls[k]? = some (.long x)) : ev L xs m pc Ls st h = ev L xs m (pc + 2) Ls (.long x :: st) h := ev_stp hd (by show ldL k 2 pc Ls st h = _; unfold ldL; rw [hv])
theorem e_lstore {k : Nat} {x : Int64} {Ls' : List Value} (hd : decode (mB m) pc = .ok (.lstore k, 2)) (hl : (Ls.set k (.long x)).set (k + 1) .null = Ls') (hk : k + 1 < mM m) (hc : catOK Ls k = true) : ev L xs m pc Ls (.long x :: st) h = ev L xs m (pc + 2) Ls' st h := ev_stp hd (by show stL (mM m) k 2 pc Ls (.long x :: st) h = _; unfold stL; (try simp only); rw [if_pos ⟨hk, hc⟩, hl])
theorem e_dconst0 (hd : decode (mB m) pc = .ok (.dconst 0, 1)) : ev L xs m pc Ls st h = ev L xs m (pc + 1) Ls (.double FP.dconst0 :: st) h := ev_stp hd rfl
theorem e_dload {k : Nat} {x : UInt64} (hd : decode (mB m) pc = .ok (.dload k, 2)) (hv : Ls[k]? = some (.double x)) : ev L xs m pc Ls st h = ev L xs m (pc + 2) Ls (.double x :: st) h := ev_stp hd (by show ldD k 2 pc Ls st h = _; unfold ldD; rw [hv])
theorem e_istore_n {k : Fin 4} {x : Int32} {Ls' : List Value} (hd : decode (mB m) pc = .ok (.istore_n k, 1)) (hl : Ls.set k (.int x) = Ls') (hk : (k : Nat) < mM m) (hc : catOK Ls k = true) : ev L xs m pc Ls (.int x :: st) h = ev L xs m (pc + 1) Ls' st h := ev_stp hd (by show stI (mM m) k 1 pc Ls (.int x :: st) h = _; unfold stI; (try simp only); rw [if_pos ⟨hk, hc⟩, hl])
theorem e_istore {k : Nat} {x : Int32} {Ls' : List Value} (hd : decode (mB m) pc = .ok (.istore k, 2)) (hl : Ls.set k (.int x) = Ls') (hk : k < mM m) (hc : catOK Ls k = true) : ev L xs m pc Ls (.int x :: st) h = ev L xs m (pc + 2) Ls' st h := ev_stp hd (by show stI (mM m) k 2 pc Ls (.int x :: st) h = _; unfold stI; (try simp only); rw [if_pos ⟨hk, hc⟩, hl])
theorem e_astore_n {k : Fin 4} {x : Nat} {Ls' : List Value} (hd : decode (mB m) pc = .ok (.astore_n k, 1)) (hl : Ls.set k (.ref x) = Ls') (hk : (k : Nat) < mM m) (hc : catOK Ls k = true) : ev L xs m pc Ls (.ref x :: st) h = ev L xs m (pc + 1) Ls' st h := ev_stp hd (by show stA (mM m) k 1 pc Ls (.ref x :: st) h = _; unfold stA; (try simp only); rw [if_pos ⟨hk, hc⟩, hl])
theorem e_astore {k : Nat} {x : Nat} {Ls' : List Value} (hd : decode (mB m) pc = .ok (.astore k, 2)) (hl : Ls.set k (.ref x) = Ls') (hk : k < mM m) (hc : catOK Ls k = true) : ev L xs m pc Ls (.ref x :: st) h = ev L xs m (pc + 2) Ls' st h := ev_stp hd (by show stA (mM m) k 2 pc Ls (.ref x :: st) h = _; unfold stA; (try simp only); rw [if_pos ⟨hk, hc⟩, hl])
theorem e_lstore_n {k : Fin 4} {x : Int64} {Ls' : List Value} (hd : decode (mB m) pc = .ok (.lstore_n k, 1)) (hl : (Ls.set k (.long x)).set (k + 1) .null = Ls') (hk : (k : Nat) + 1 < mM m) (hc : catOK Ls k = true) : ev L xs m pc Ls (.long x :: st) h = ev L xs m (pc + 1) Ls' st h := ev_stp hd (by show stL (mM m) k 1 pc Ls (.long x :: st) h = _; unfold stL; (try simp only); rw [if_pos ⟨hk, hc⟩, hl])
theorem e_dstore {k : Nat} {x : UInt64} {Ls' : List Value} (hd : decode (mB m) pc = .ok (.dstore k, 2)) (hl : (Ls.set k (.double x)).set (k + 1) .null = Ls') (hk : k + 1 < mM m) (hc : catOK Ls k = true) : ev L xs m pc Ls (.double x :: st) h = ev L xs m (pc + 2) Ls' st h := ev_stp hd (by show stD (mM m) k 2 pc Ls (.double x :: st) h = _; unfold stD; (try simp only); rw [if_pos ⟨hk, hc⟩, hl])
theorem e_iinc {k : Nat} {c : Int} {x v : Int32} {Ls' : List Value} (hd : decode (mB m) pc = .ok (.iinc k c, 3)) (hv : Ls[k]? = some (.int x)) (hw : Int32.ofInt c = v) (hl : Ls.set k (.int (x + v)) = Ls') (hk : k < mM m) (hc : catOK Ls k = true) : ev L xs m pc Ls st h = ev L xs m (pc + 3) Ls' st h := ev_stp hd (by subst hw; show (match Ls[k]? with | some (.int x) => _ | _ => _) = _; rw [hv]; (try simp only); rw [if_pos ⟨hk, hc⟩, hl])
theorem e_iconst {c : Int} {v : Int32} (hd : decode (mB m) pc = .ok (.iconst c, 1)) (hv : Int32.ofInt c = v) : ev L xs m pc Ls st h = ev L xs m (pc + 1) Ls (.int v :: st) h := ev_stp hd (by subst hv; rfl)
theorem e_bipush {c : Int} {v : Int32} (hd : decode (mB m) pc = .ok (.bipush c, 2)) (hv : (Int8.ofInt c).toInt32 = v) : ev L xs m pc Ls st h = ev L xs m (pc + 2) Ls (.int v :: st) h := ev_stp hd (by subst hv; rfl)
theorem e_sipush {c : Int} {v : Int32} (hd : decode (mB m) pc = .ok (.sipush c, 3)) (hv : (Int16.ofInt c).toInt32 = v) : ev L xs m pc Ls st h = ev L xs m (pc + 3) Ls (.int v :: st) h := ev_stp hd (by subst hv; rfl)
theorem e_dconst1 (hd : decode (mB m) pc = .ok (.dconst 1, 1)) : ev L xs m pc Ls st h = ev L xs m (pc + 1) Ls (.double FP.dconst1 :: st) h := ev_stp hd rfl
theorem e_ldc {j : Nat} {v : Int32} (hd : decode (mB m) pc = .ok (.ldc j, 2)) (hi : iRes (mC m) j = some v) : ev L xs m pc Ls st h = ev L xs m (pc + 2) Ls (.int v :: st) h := ev_stp hd (by show (match iRes (mC m) j with | some v => _ | none => _) = _; rw [hi])
theorem e_ldcw {j : Nat} {v : Int32} (hd : decode (mB m) pc = .ok (.ldc_w j, 3)) (hi : iRes (mC m) j = some v) : ev L xs m pc Ls st h = ev L xs m (pc + 3) Ls (.int v :: st) h := ev_stp hd (by show (match iRes (mC m) j with | some v => _ | none => _) = _; rw [hi])
theorem e_ldc2 {j : Nat} {v : Int64} (hd : decode (mB m) pc = .ok (.ldc2_w j, 3)) (hi : lRes (mC m) j = some v) : ev L xs m pc Ls st h = ev L xs m (pc + 3) Ls (.long v :: st) h := ev_stp hd (by show (match lRes (mC m) j with | some v => _ | none => _) = _; rw [hi])
theorem e_getI {a k f F : Nat} (hd : decode (mB m) pc = .ok (.getfield i, 3)) (hf : fRes (mC m) i = some (k, f)) (hr : isRf k f = false) (hF : 16 * k + f = F) (hk : hK h a = k) : ev L xs m pc Ls (.ref a :: st) h = ev L xs m (pc + 3) Ls (.int (hI h F a) :: st) h :=
  ev_stp hd (by show getF (mC m) i pc Ls (.ref a :: st) h = _; subst hF; unfold getF; rw [hf]; (try simp only); rw [if_pos hk, hr]; rfl)
theorem e_getR {a k f F : Nat} (hd : decode (mB m) pc = .ok (.getfield i, 3)) (hf : fRes (mC m) i = some (k, f)) (hr : isRf k f = true) (hF : 16 * k + f = F) (hk : hK h a = k) (hj : (hR h F a).isSome = true) : ev L xs m pc Ls (.ref a :: st) h = ev L xs m (pc + 3) Ls (.ref ((hR h F a).getD 0) :: st) h := by
  obtain ⟨j, hj⟩ := Option.isSome_iff_exists.mp hj
  rw [hj]
  exact ev_stp hd (by show getF (mC m) i pc Ls (.ref a :: st) h = _; subst hF; unfold getF; rw [hf]; (try simp only); rw [if_pos hk, hr, hj]; rfl)
theorem e_putI {a k f F : Nat} {v : Int32} (hd : decode (mB m) pc = .ok (.putfield i, 3)) (hf : fRes (mC m) i = some (k, f)) (hr : isRf k f = false) (hp : putOK m k f = true) (hF : 16 * k + f = F) (hk : hK h a = k) : ev L xs m pc Ls (.int v :: .ref a :: st) h = ev L xs m (pc + 3) Ls st (sI h F a v) :=
  ev_stp hd (by show putF m i pc Ls (.int v :: .ref a :: st) h = _; subst hF; unfold putF; rw [hf]; (try simp only); rw [if_pos ⟨hk, hr, hp⟩])
theorem e_putR {a v k f F : Nat} (hd : decode (mB m) pc = .ok (.putfield i, 3)) (hf : fRes (mC m) i = some (k, f)) (hr : isRf k f = true) (hp : putOK m k f = true) (hF : 16 * k + f = F) (hk : hK h a = k) : ev L xs m pc Ls (.ref v :: .ref a :: st) h = ev L xs m (pc + 3) Ls st (sR h F a v) :=
  ev_stp hd (by show putF m i pc Ls (.ref v :: .ref a :: st) h = _; subst hF; unfold putF; rw [hf]; (try simp only); rw [if_pos ⟨hk, hr, hp⟩])
theorem e_iald {a : Nat} {j : Int32} (hd : decode (mB m) pc = .ok (.iaload, 1)) (hk : hK h a = 8) (hi : inA j (hN h a) = true) : ev L xs m pc Ls (.int j :: .ref a :: st) h = ev L xs m (pc + 1) Ls (.int (hA h a j.toNatClampNeg) :: st) h :=
  ev_stp hd (by show iald L xs (mC m == 8) pc Ls (.int j :: .ref a :: st) h = _; unfold iald; (try simp only); rw [if_pos ⟨hk, hi⟩])
theorem e_sald {z : Nat} {j : Int32} (hd : decode (mB m) pc = .ok (.iaload, 1)) (hm : (mC m == 8) = true) (hi : inA j L = true) : ev L xs m pc Ls (.int j :: .retAddr z :: st) h = ev L xs m (pc + 1) Ls (.int (xs j.toNatClampNeg) :: st) h :=
  ev_stp hd (by show iald L xs (mC m == 8) pc Ls (.int j :: .retAddr z :: st) h = _; unfold iald; (try simp only); rw [if_pos ⟨hm, hi⟩])
theorem e_slen {z : Nat} (hd : decode (mB m) pc = .ok (.arraylength, 1)) (hm : (mC m == 8) = true) : ev L xs m pc Ls (.retAddr z :: st) h = ev L xs m (pc + 1) Ls (.int (Int32.ofNat L) :: st) h :=
  ev_stp hd (by show alen L (mC m == 8) pc Ls (.retAddr z :: st) h = _; unfold alen; (try simp only); rw [if_pos hm])
theorem e_alen {a : Nat} (hd : decode (mB m) pc = .ok (.arraylength, 1)) (hk : hK h a = 8) : ev L xs m pc Ls (.ref a :: st) h = ev L xs m (pc + 1) Ls (.int (Int32.ofNat (hN h a)) :: st) h :=
  ev_stp hd (by show alen L (mC m == 8) pc Ls (.ref a :: st) h = _; unfold alen; (try simp only); rw [if_pos hk])
theorem e_iast {a : Nat} {j v : Int32} (hd : decode (mB m) pc = .ok (.iastore, 1)) (hk : hK h a = 8) (hi : inA j (hN h a) = true) : ev L xs m pc Ls (.int v :: .int j :: .ref a :: st) h = ev L xs m (pc + 1) Ls st (sA h a j.toNatClampNeg v) :=
  ev_stp hd (by show iast pc Ls (.int v :: .int j :: .ref a :: st) h = _; unfold iast; (try simp only); rw [if_pos ⟨hk, hi⟩])
theorem e_aald {a : Nat} {j : Int32} (hd : decode (mB m) pc = .ok (.aaload, 1)) (hk : hK h a = 9 ∨ hK h a = 10 ∨ hK h a = 11) (hi : inA j (hN h a) = true) (hq : (hQ h a j.toNatClampNeg).isSome = true) : ev L xs m pc Ls (.int j :: .ref a :: st) h = ev L xs m (pc + 1) Ls (.ref ((hQ h a j.toNatClampNeg).getD 0) :: st) h := by
  obtain ⟨z, hz⟩ := Option.isSome_iff_exists.mp hq
  rw [hz]
  exact ev_stp hd (by show aald pc Ls (.int j :: .ref a :: st) h = _; unfold aald; (try simp only); rw [if_pos ⟨hk, hi⟩, hz]; rfl)
theorem e_aast {a v : Nat} {j : Int32} (hd : decode (mB m) pc = .ok (.aastore, 1)) (hk : hK h a = 9 ∨ hK h a = 10 ∨ hK h a = 11) (hi : inA j (hN h a) = true) (hv : hK h v = rowK (hK h a)) : ev L xs m pc Ls (.ref v :: .int j :: .ref a :: st) h = ev L xs m (pc + 1) Ls st (sQ h a j.toNatClampNeg v) :=
  ev_stp hd (by show aast pc Ls (.ref v :: .int j :: .ref a :: st) h = _; unfold aast; (try simp only); rw [if_pos ⟨hk, hi, hv⟩])
theorem e_iadd {x z : Int32} (hd : decode (mB m) pc = .ok (.iadd, 1)) : ev L xs m pc Ls (.int z :: .int x :: st) h = ev L xs m (pc + 1) Ls (.int (x + z) :: st) h := ev_stp hd rfl
theorem e_isub {x z : Int32} (hd : decode (mB m) pc = .ok (.isub, 1)) : ev L xs m pc Ls (.int z :: .int x :: st) h = ev L xs m (pc + 1) Ls (.int (x - z) :: st) h := ev_stp hd rfl
theorem e_imul {x z : Int32} (hd : decode (mB m) pc = .ok (.imul, 1)) : ev L xs m pc Ls (.int z :: .int x :: st) h = ev L xs m (pc + 1) Ls (.int (x * z) :: st) h := ev_stp hd rfl
theorem e_iand {x z : Int32} (hd : decode (mB m) pc = .ok (.iand, 1)) : ev L xs m pc Ls (.int z :: .int x :: st) h = ev L xs m (pc + 1) Ls (.int (x &&& z) :: st) h := ev_stp hd rfl
theorem e_ior {x z : Int32} (hd : decode (mB m) pc = .ok (.ior, 1)) : ev L xs m pc Ls (.int z :: .int x :: st) h = ev L xs m (pc + 1) Ls (.int (x ||| z) :: st) h := ev_stp hd rfl
theorem e_ixor {x z : Int32} (hd : decode (mB m) pc = .ok (.ixor, 1)) : ev L xs m pc Ls (.int z :: .int x :: st) h = ev L xs m (pc + 1) Ls (.int (x ^^^ z) :: st) h := ev_stp hd rfl
theorem e_ishl {x z : Int32} (hd : decode (mB m) pc = .ok (.ishl, 1)) : ev L xs m pc Ls (.int z :: .int x :: st) h = ev L xs m (pc + 1) Ls (.int (x <<< (z &&& 31)) :: st) h := ev_stp hd rfl
theorem e_ishr {x z : Int32} (hd : decode (mB m) pc = .ok (.ishr, 1)) : ev L xs m pc Ls (.int z :: .int x :: st) h = ev L xs m (pc + 1) Ls (.int (x >>> (z &&& 31)) :: st) h := ev_stp hd rfl
theorem e_iushr {x z : Int32} (hd : decode (mB m) pc = .ok (.iushr, 1)) : ev L xs m pc Ls (.int z :: .int x :: st) h = ev L xs m (pc + 1) Ls (.int (x.toUInt32 >>> (z.toUInt32 &&& Int32.toUInt32 31)).toInt32 :: st) h := ev_stp hd rfl
theorem e_idiv {x z : Int32} (hd : decode (mB m) pc = .ok (.idiv, 1)) (hz : ¬ z = 0) : ev L xs m pc Ls (.int z :: .int x :: st) h = ev L xs m (pc + 1) Ls (.int (x / z) :: st) h := ev_stp hd (if_neg hz)
theorem e_irem {x z : Int32} (hd : decode (mB m) pc = .ok (.irem, 1)) (hz : ¬ z = 0) : ev L xs m pc Ls (.int z :: .int x :: st) h = ev L xs m (pc + 1) Ls (.int (x - x / z * z) :: st) h := ev_stp hd (if_neg hz)
theorem e_ineg {x : Int32} (hd : decode (mB m) pc = .ok (.ineg, 1)) : ev L xs m pc Ls (.int x :: st) h = ev L xs m (pc + 1) Ls (.int (-x) :: st) h := ev_stp hd rfl
theorem e_ladd {x z : Int64} (hd : decode (mB m) pc = .ok (.ladd, 1)) : ev L xs m pc Ls (.long z :: .long x :: st) h = ev L xs m (pc + 1) Ls (.long (x + z) :: st) h := ev_stp hd rfl
theorem e_lmul {x z : Int64} (hd : decode (mB m) pc = .ok (.lmul, 1)) : ev L xs m pc Ls (.long z :: .long x :: st) h = ev L xs m (pc + 1) Ls (.long (x * z) :: st) h := ev_stp hd rfl
theorem e_i2l {x : Int32} (hd : decode (mB m) pc = .ok (.i2l, 1)) : ev L xs m pc Ls (.int x :: st) h = ev L xs m (pc + 1) Ls (.long x.toInt64 :: st) h := ev_stp hd rfl
theorem e_i2d {x : Int32} (hd : decode (mB m) pc = .ok (.i2d, 1)) : ev L xs m pc Ls (.int x :: st) h = ev L xs m (pc + 1) Ls (.double (FP.i2d x) :: st) h := ev_stp hd rfl
theorem e_lcmp {x z : Int64} (hd : decode (mB m) pc = .ok (.lcmp, 1)) : ev L xs m pc Ls (.long z :: .long x :: st) h = ev L xs m (pc + 1) Ls (.int (lg_cmp x z) :: st) h := ev_stp hd rfl
theorem e_dcmp {x z : UInt64} {o : CmpOp} (hd : decode (mB m) pc = .ok (.dcmp o, 1)) : ev L xs m pc Ls (.double z :: .double x :: st) h = ev L xs m (pc + 1) Ls (.int (Op.cmpValue (FP.dcmp x z) o) :: st) h := ev_stp hd rfl
theorem e_ddiv {x z : UInt64} (hd : decode (mB m) pc = .ok (.ddiv, 1)) (hv : FP.ddiv x z &&& 0x7fffffffffffffff ≤ 0x7ff0000000000000) : ev L xs m pc Ls (.double z :: .double x :: st) h = ev L xs m (pc + 1) Ls (.double (FP.ddiv x z) :: st) h := ev_stp hd (if_pos hv)
theorem e_dup {v : Value} (hd : decode (mB m) pc = .ok (.dup, 1)) (hv : v.category = 1) : ev L xs m pc Ls (v :: st) h = ev L xs m (pc + 1) Ls (v :: v :: st) h := ev_stp hd (if_pos hv)
theorem e_dup2 {v w : Value} (hd : decode (mB m) pc = .ok (.dup2, 1)) (hv : v.category = 1) (hw : w.category = 1) : ev L xs m pc Ls (v :: w :: st) h = ev L xs m (pc + 1) Ls (v :: w :: v :: w :: st) h := ev_stp hd (if_pos ⟨hv, hw⟩)
theorem e_pop {v : Value} (hd : decode (mB m) pc = .ok (.pop, 1)) (hv : v.category = 1) : ev L xs m pc Ls (v :: st) h = ev L xs m (pc + 1) Ls st h := ev_stp hd (if_pos hv)
theorem jmp_eq {o : Int} {t : Nat} (ht : (pc : Int) + o = (t : Int)) : jok pc o = true ∧ jmp pc o = t := by
  unfold jok jmp
  rw [decide_eq_true_eq]
  omega
theorem e_goto {o : Int} {t : Nat} (hd : decode (mB m) pc = .ok (.goto o, 3)) (ht : (pc : Int) + o = (t : Int)) : ev L xs m pc Ls st h = ev L xs m t Ls st h := by
  obtain ⟨h1, h2⟩ := jmp_eq ht
  have := ev_stp (L := L) (xs := xs) (Ls := Ls) (st := st) (h := h) hd (pc' := jmp pc o) (Ls' := Ls) (st' := st) (h' := h) (if_pos h1)
  rw [h2] at this
  exact this
theorem e_br {I : Instr} {o : Int} {t : Nat} {st0 : List Value} {b : Bool} (hd : decode (mB m) pc = .ok (I, 3)) (ht : (pc : Int) + o = (t : Int)) (hs : jok pc o = true → stepI L xs m pc Ls st0 h I 3 = some (.inl (if b = true then jmp pc o else pc + 3, Ls, st, h))) : ev L xs m pc Ls st0 h = if b = true then ev L xs m t Ls st h else ev L xs m (pc + 3) Ls st h := by
  obtain ⟨h1, h2⟩ := jmp_eq ht
  rw [ev_stp hd (hs h1), h2]
  cases b <;> rfl
theorem e_icmp {cd : ClassFile.Cond} {o : Int} {t : Nat} {x z : Int32} (hd : decode (mB m) pc = .ok (.if_icmp cd o, 3)) (ht : (pc : Int) + o = (t : Int)) : ev L xs m pc Ls (.int z :: .int x :: st) h = if cmpI cd x z = true then ev L xs m t Ls st h else ev L xs m (pc + 3) Ls st h := e_br hd ht (fun hj => if_pos hj)
theorem e_if {cd : ClassFile.Cond} {o : Int} {t : Nat} {x : Int32} (hd : decode (mB m) pc = .ok (.ifCond cd o, 3)) (ht : (pc : Int) + o = (t : Int)) : ev L xs m pc Ls (.int x :: st) h = if cmpI cd x 0 = true then ev L xs m t Ls st h else ev L xs m (pc + 3) Ls st h := e_br hd ht (fun hj => if_pos hj)
theorem ite_dec {α : Type} {c : Prop} {b : Bool} [Decidable c] {x y : α} (hb : b = decide c) : (if b = true then x else y) = if c then x else y := by
  subst hb
  by_cases hc : c <;> simp [hc]
theorem e_if_eq {o : Int} {t : Nat} {x : Int32} (hd : decode (mB m) pc = .ok (.ifCond .eq o, 3)) (ht : (pc : Int) + o = (t : Int)) : ev L xs m pc Ls (.int x :: st) h = if x = 0 then ev L xs m t Ls st h else ev L xs m (pc + 3) Ls st h := by rw [e_if hd ht]; exact ite_dec rfl
theorem e_if_ne {o : Int} {t : Nat} {x : Int32} (hd : decode (mB m) pc = .ok (.ifCond .ne o, 3)) (ht : (pc : Int) + o = (t : Int)) : ev L xs m pc Ls (.int x :: st) h = if x = 0 then ev L xs m (pc + 3) Ls st h else ev L xs m t Ls st h := by rw [e_if hd ht]; unfold cmpI; by_cases hc : x = 0 <;> simp [hc]
theorem e_if_lt {o : Int} {t : Nat} {x : Int32} (hd : decode (mB m) pc = .ok (.ifCond .lt o, 3)) (ht : (pc : Int) + o = (t : Int)) : ev L xs m pc Ls (.int x :: st) h = if x < 0 then ev L xs m t Ls st h else ev L xs m (pc + 3) Ls st h := by rw [e_if hd ht]; exact ite_dec rfl
theorem e_if_ge {o : Int} {t : Nat} {x : Int32} (hd : decode (mB m) pc = .ok (.ifCond .ge o, 3)) (ht : (pc : Int) + o = (t : Int)) : ev L xs m pc Ls (.int x :: st) h = if 0 ≤ x then ev L xs m t Ls st h else ev L xs m (pc + 3) Ls st h := by rw [e_if hd ht]; exact ite_dec rfl
theorem e_if_gt {o : Int} {t : Nat} {x : Int32} (hd : decode (mB m) pc = .ok (.ifCond .gt o, 3)) (ht : (pc : Int) + o = (t : Int)) : ev L xs m pc Ls (.int x :: st) h = if 0 < x then ev L xs m t Ls st h else ev L xs m (pc + 3) Ls st h := by rw [e_if hd ht]; exact ite_dec rfl
theorem e_if_le {o : Int} {t : Nat} {x : Int32} (hd : decode (mB m) pc = .ok (.ifCond .le o, 3)) (ht : (pc : Int) + o = (t : Int)) : ev L xs m pc Ls (.int x :: st) h = if x ≤ 0 then ev L xs m t Ls st h else ev L xs m (pc + 3) Ls st h := by rw [e_if hd ht]; exact ite_dec rfl
theorem e_ic_eq {o : Int} {t : Nat} {x z : Int32} (hd : decode (mB m) pc = .ok (.if_icmp .eq o, 3)) (ht : (pc : Int) + o = (t : Int)) : ev L xs m pc Ls (.int z :: .int x :: st) h = if x = z then ev L xs m t Ls st h else ev L xs m (pc + 3) Ls st h := by rw [e_icmp hd ht]; exact ite_dec rfl
theorem e_ic_ne {o : Int} {t : Nat} {x z : Int32} (hd : decode (mB m) pc = .ok (.if_icmp .ne o, 3)) (ht : (pc : Int) + o = (t : Int)) : ev L xs m pc Ls (.int z :: .int x :: st) h = if x = z then ev L xs m (pc + 3) Ls st h else ev L xs m t Ls st h := by rw [e_icmp hd ht]; unfold cmpI; by_cases hc : x = z <;> simp [hc]
theorem e_ic_lt {o : Int} {t : Nat} {x z : Int32} (hd : decode (mB m) pc = .ok (.if_icmp .lt o, 3)) (ht : (pc : Int) + o = (t : Int)) : ev L xs m pc Ls (.int z :: .int x :: st) h = if x < z then ev L xs m t Ls st h else ev L xs m (pc + 3) Ls st h := by rw [e_icmp hd ht]; exact ite_dec rfl
theorem e_ic_ge {o : Int} {t : Nat} {x z : Int32} (hd : decode (mB m) pc = .ok (.if_icmp .ge o, 3)) (ht : (pc : Int) + o = (t : Int)) : ev L xs m pc Ls (.int z :: .int x :: st) h = if z ≤ x then ev L xs m t Ls st h else ev L xs m (pc + 3) Ls st h := by rw [e_icmp hd ht]; exact ite_dec rfl
theorem e_ic_gt {o : Int} {t : Nat} {x z : Int32} (hd : decode (mB m) pc = .ok (.if_icmp .gt o, 3)) (ht : (pc : Int) + o = (t : Int)) : ev L xs m pc Ls (.int z :: .int x :: st) h = if z < x then ev L xs m t Ls st h else ev L xs m (pc + 3) Ls st h := by rw [e_icmp hd ht]; exact ite_dec rfl
theorem e_ic_le {o : Int} {t : Nat} {x z : Int32} (hd : decode (mB m) pc = .ok (.if_icmp .le o, 3)) (ht : (pc : Int) + o = (t : Int)) : ev L xs m pc Ls (.int z :: .int x :: st) h = if x ≤ z then ev L xs m t Ls st h else ev L xs m (pc + 3) Ls st h := by rw [e_icmp hd ht]; exact ite_dec rfl
theorem e_tsw {d lo hi o : Int} {offs : Array Int} {len t : Nat} {x : Int32} (hd : decode (mB m) pc = .ok (.tableswitch d lo hi offs, len)) (ho : tswT pc d lo hi offs x = some o) (ht : (pc : Int) + o = (t : Int)) : ev L xs m pc Ls (.int x :: st) h = ev L xs m t Ls st h := by
  obtain ⟨h1, h2⟩ := jmp_eq ht
  have := ev_stp (L := L) (xs := xs) (Ls := Ls) (st := .int x :: st) (h := h) hd (pc' := jmp pc o) (Ls' := Ls) (st' := st) (h' := h) (by show (match tswT pc d lo hi offs x with | some o => _ | none => _) = _; rw [ho]; exact if_pos h1)
  rw [h2] at this
  exact this
theorem e_lsw {d : Int} {ps : Array (Int × Int)} {len t : Nat} {x : Int32} (hd : decode (mB m) pc = .ok (.lookupswitch d ps, len)) (hp : (ps.toList.zip (ps.toList.drop 1)).all (fun q => decide (q.1.1 < q.2.1)) = true) (ht : (pc : Int) + Op.lookupswitch.offset ps.toList d x.toInt = (t : Int)) : ev L xs m pc Ls (.int x :: st) h = ev L xs m t Ls st h := by
  obtain ⟨h1, h2⟩ := jmp_eq ht
  have := ev_stp (L := L) (xs := xs) (Ls := Ls) (st := .int x :: st) (h := h) hd (pc' := jmp pc (Op.lookupswitch.offset ps.toList d x.toInt)) (Ls' := Ls) (st' := st) (h' := h) (if_pos ⟨hp, h1⟩)
  rw [h2] at this
  exact this
theorem e_new {k : Nat} (hd : decode (mB m) pc = .ok (.new i, 3)) (hk : nRes (mC m) i = some k) : ev L xs m pc Ls st h = ev L xs m (pc + 3) Ls (.ref (hn h) :: st) (nw h k 0 (cN k)) := ev_stp hd (by show newO m i pc Ls st h = _; unfold newO; rw [hk])
theorem e_newI {c : Int32} (hd : decode (mB m) pc = .ok (.newarray .int, 2)) (h0 : 0 ≤ c) (h1 : c ≤ 10000) : ev L xs m pc Ls (.int c :: st) h = ev L xs m (pc + 2) Ls (.ref (hn h) :: st) (nw h 8 c.toNatClampNeg c.toNatClampNeg) := ev_stp hd (if_pos ⟨h0, h1⟩)
theorem e_newQ {k : Nat} {c : Int32} (hd : decode (mB m) pc = .ok (.anewarray i, 3)) (hk : qRes (mC m) i = some k) (h0 : 0 ≤ c) (h1 : c ≤ 10000) : ev L xs m pc Ls (.int c :: st) h = ev L xs m (pc + 3) Ls (.ref (hn h) :: st) (nw h k c.toNatClampNeg c.toNatClampNeg) := ev_stp hd (by show newQ m i pc Ls (.int c :: st) h = _; unfold newQ; rw [hk]; exact if_pos ⟨h0, h1⟩)
theorem e_throw {is ic : Nat} {E : String} (hd : decode (mB m) pc = .ok (.new i, 3)) (hk : nRes (mC m) i = none) (d3 : decode (mB m) (pc + 3) = .ok (.dup, 1)) (d4 : decode (mB m) (pc + 4) = .ok (.ldc is, 2)) (d6 : decode (mB m) (pc + 6) = .ok (.invokespecial ic, 3)) (d9 : decode (mB m) (pc + 9) = .ok (.athrow, 1)) (hE : xRes i ic = some E) (hc9 : mC m = 6 ∧ (sRT.any (fun q => q.1 == is)) = true ∧ mV m = 8 ∧ mH m = []) : ev L xs m pc Ls [] h = some (.inr (E, bump h)) :=
  ev_thr L xs (by unfold stp; rw [hd]; show newO m i pc Ls [] h = _; unfold newO; rw [hk, d3, d4, d6, d9]; (try simp only); rw [hE]; exact if_pos ⟨hc9.1, hc9.2.1, hc9.2.2.1, hc9.2.2.2, trivial⟩)
theorem e_throwW {is ic : Nat} {E : String} (hd : decode (mB m) pc = .ok (.new i, 3)) (hk : nRes (mC m) i = none) (d3 : decode (mB m) (pc + 3) = .ok (.dup, 1)) (d4 : decode (mB m) (pc + 4) = .ok (.ldc_w is, 3)) (d6 : decode (mB m) (pc + 7) = .ok (.invokespecial ic, 3)) (d9 : decode (mB m) (pc + 10) = .ok (.athrow, 1)) (hE : xRes i ic = some E) (hc9 : mC m = 6 ∧ (sRT.any (fun q => q.1 == is)) = true ∧ mV m = 8 ∧ mH m = []) : ev L xs m pc Ls [] h = some (.inr (E, bump h)) :=
  ev_thr L xs (by unfold stp; rw [hd]; show newO m i pc Ls [] h = _; unfold newO; rw [hk, d3, d4, d6, d9]; (try simp only); rw [hE]; exact if_pos ⟨hc9.1, hc9.2.1, hc9.2.2.1, hc9.2.2.2, trivial⟩)
theorem e_copy {a d : Nat} {sp dp c : Int32} (hd : decode (mB m) pc = .ok (.invokestatic i, 3)) (hm : mRes (mC m) i = some (y, 8, n)) (h0 : 2 ≤ mV m) (hw : wds st ≤ 8) (hk : hK h a = 8) (hk2 : hK h d = 8) (h1 : 0 ≤ sp) (h2 : 0 ≤ dp) (h3 : 0 ≤ c) (h4 : sp.toNatClampNeg + c.toNatClampNeg ≤ hN h a) (h5 : dp.toNatClampNeg + c.toNatClampNeg ≤ hN h d) : ev L xs m pc Ls (.int c :: .int dp :: .ref d :: .int sp :: .ref a :: st) h = ev L xs m (pc + 3) Ls st (cpA h a sp.toNatClampNeg d dp.toNatClampNeg c.toNatClampNeg) :=
  ev_stp hd (by show invS m i pc Ls (.int c :: .int dp :: .ref d :: .int sp :: .ref a :: st) h = _; unfold invS; rw [hm]; (try simp only); rw [if_pos trivial]; exact if_pos ⟨h0, hw, hk, hk2, h1, h2, h3, h4, h5⟩)
theorem e_min {x z : Int32} (hd : decode (mB m) pc = .ok (.invokestatic i, 3)) (hm : mRes (mC m) i = some (y, 9, n)) (h0 : mV m ≠ 0) (hw : wds st ≤ 8) : ev L xs m pc Ls (.int z :: .int x :: st) h = ev L xs m (pc + 3) Ls (.int (if z < x then z else x) :: st) h :=
  ev_stp hd (by show invS m i pc Ls (.int z :: .int x :: st) h = _; unfold invS; rw [hm]; (try simp only); rw [if_neg (by decide), if_pos trivial]; exact if_pos ⟨h0, hw⟩)
theorem e_obj {a : Nat} (hd : decode (mB m) pc = .ok (.invokespecial i, 3)) (hm : mRes (mC m) i = some (y, 7, n)) (h0 : mV m ≠ 0) (hw : wds st ≤ 8) : ev L xs m pc Ls (.ref a :: st) h = ev L xs m (pc + 3) Ls st h :=
  ev_stp hd (by show invI m i pc Ls (.ref a :: st) h = _; unfold invI; rw [hm]; (try simp only); rw [if_pos trivial]; exact if_pos ⟨h0, hw⟩)
theorem ev_cl {st0 vs rest vs' : List Value} {I : Instr} (hd : decode (mB m) pc = .ok (I, 3)) (he : entL vs (mM y) = vs') (hs : stepI L xs m pc Ls st0 h I 3 = some (.inr (.inr (.inl (y, vs, rest))))) :
    ev L xs m pc Ls st0 h = kn L xs m pc (pc + 3) Ls rest (ev L xs y 0 vs' [] h) := by
  subst he
  exact ev_call L xs (by unfold stp; rw [hd]; exact hs)
theorem e_callS {mode : Nat} {as vs' : List Value} (hd : decode (mB m) pc = .ok (.invokestatic i, 3)) (hm : mRes (mC m) i = some (y, mode, n)) (hmd : mode = 0 ∨ mode = 3 ∨ mode = 6) (hl : mV y < mV m) (hn9 : as.length = n) (hwa : wds as ≤ mM y) (he : entL as.reverse (mM y) = vs') (hw : wds st ≤ 8) :
    ev L xs m pc Ls (as ++ st) h = kn L xs m pc (pc + 3) Ls st (ev L xs y 0 vs' [] h) := by
  refine ev_cl hd he ?_
  show invS m i pc Ls _ h = _
  unfold invS
  rw [hm]
  try simp only
  rw [if_neg (by omega), if_neg (by omega)]
  subst hn9
  unfold clS
  rw [List.drop_left, List.take_left, if_pos ⟨hl, hw, by simp, hwa⟩, if_pos hmd]
theorem e_callV {mode a : Nat} {as vs' : List Value} (hd : decode (mB m) pc = .ok (.invokevirtual i, 3)) (hm : mRes (mC m) i = some (y, mode, n)) (hmd : mode = 1 ∨ mode = 5) (hl : mV y < mV m) (hn9 : as.length = n) (hwa : wds as + 1 ≤ mM y) (he : entL (.ref a :: as.reverse) (mM y) = vs') (h8 : mC y < 8) (hk : hK h a = mC y) (hw : wds st ≤ 8) :
    ev L xs m pc Ls (as ++ .ref a :: st) h = kn L xs m pc (pc + 3) Ls st (ev L xs y 0 vs' [] h) := by
  refine ev_cl hd he ?_
  show invV m i _ h = _
  unfold invV
  rw [hm]
  try simp only
  rw [if_pos hmd]
  subst hn9
  unfold clV
  rw [List.drop_left, List.take_left]
  try simp only
  rw [if_pos ⟨hl, hw, by simp, hwa, hk, h8⟩]
theorem e_callI {mode a : Nat} {as vs' : List Value} (hd : decode (mB m) pc = .ok (.invokespecial i, 3)) (hm : mRes (mC m) i = some (y, mode, n)) (hmd : mode = 2 ∨ mode = 4) (hl : mV y < mV m) (hn9 : as.length = n) (hwa : wds as + 1 ≤ mM y) (he : entL (.ref a :: as.reverse) (mM y) = vs') (h8 : mC y < 8) (hk : hK h a = mC y) (hw : wds st ≤ 8) :
    ev L xs m pc Ls (as ++ .ref a :: st) h = kn L xs m pc (pc + 3) Ls st (ev L xs y 0 vs' [] h) := by
  refine ev_cl hd he ?_
  show invI m i pc Ls _ h = _
  unfold invI
  rw [hm]
  try simp only
  rw [if_neg (by omega), if_pos hmd]
  subst hn9
  unfold clV
  rw [List.drop_left, List.take_left]
  try simp only
  rw [if_pos ⟨hl, hw, by simp, hwa, hk, h8⟩]
theorem e_iret {v : Int32} (hd : decode (mB m) pc = .ok (.ireturn, 1)) (hr : mR m = some .int) : ev L xs m pc Ls [.int v] h = some (.inl (some (.int v), h)) := ev_ret L xs (by unfold stp; rw [hd]; exact if_pos (Or.inl hr))
theorem e_zret {v : Int32} (hd : decode (mB m) pc = .ok (.ireturn, 1)) (hr : mR m = some .boolean) (hv : v = 0 ∨ v = 1) : ev L xs m pc Ls [.int v] h = some (.inl (some (.int v), h)) := ev_ret L xs (by unfold stp; rw [hd]; exact if_pos (Or.inr ⟨hr, hv⟩))
theorem e_lret {v : Int64} (hd : decode (mB m) pc = .ok (.lreturn, 1)) (hr : mR m = some .long) : ev L xs m pc Ls [.long v] h = some (.inl (some (.long v), h)) := ev_ret L xs (by unfold stp; rw [hd]; exact if_pos hr)
theorem e_dret {v : UInt64} (hd : decode (mB m) pc = .ok (.dreturn, 1)) (hr : mR m = some .double) : ev L xs m pc Ls [.double v] h = some (.inl (some (.double v), h)) := ev_ret L xs (by unfold stp; rw [hd]; exact if_pos hr)
theorem e_vret (hd : decode (mB m) pc = .ok (.return_, 1)) (hr : mR m = none) : ev L xs m pc Ls [] h = some (.inl (none, h)) := ev_ret L xs (by unfold stp; rw [hd]; exact if_pos ⟨hr, rfl⟩)
end
