/-! THE STEP -/
section
variable (L : Nat) (xs : Nat → Int32)
abbrev actGo (pc : Nat) (Ls st : List Value) (h : AH) : Option Act := some (Sum.inl (pc, Ls, st, h))
def op2 (f : Int32 → Int32 → Int32) (pc : Nat) (Ls st : List Value) (h : AH) : Option Act := match st with
  | .int y :: .int x :: s => actGo (pc + 1) Ls (.int (f x y) :: s) h
  | _ => none
def opL (f : Int64 → Int64 → Int64) (pc : Nat) (Ls st : List Value) (h : AH) : Option Act := match st with
  | .long y :: .long x :: s => actGo (pc + 1) Ls (.long (f x y) :: s) h
  | _ => none
def ldI (k d pc : Nat) (Ls st : List Value) (h : AH) : Option Act := match Ls[k]? with
  | some (.int x) => actGo (pc + d) Ls (.int x :: st) h
  | _ => none
def ldA (k d pc : Nat) (Ls st : List Value) (h : AH) : Option Act := match Ls[k]? with
  | some (.ref x) => actGo (pc + d) Ls (.ref x :: st) h
  | some (.retAddr x) => actGo (pc + d) Ls (.retAddr x :: st) h
  | _ => none
def ldL (k d pc : Nat) (Ls st : List Value) (h : AH) : Option Act := match Ls[k]? with
  | some (.long x) => actGo (pc + d) Ls (.long x :: st) h
  | _ => none
def ldD (k d pc : Nat) (Ls st : List Value) (h : AH) : Option Act := match Ls[k]? with
  | some (.double x) => actGo (pc + d) Ls (.double x :: st) h
  | _ => none
def stI (n k d pc : Nat) (Ls st : List Value) (h : AH) : Option Act := match st with
  | .int x :: s => if k < n ∧ catOK Ls k = true then actGo (pc + d) (Ls.set k (.int x)) s h else none
  | _ => none
def stA (n k d pc : Nat) (Ls st : List Value) (h : AH) : Option Act := match st with
  | .ref x :: s => if k < n ∧ catOK Ls k = true then actGo (pc + d) (Ls.set k (.ref x)) s h else none
  | _ => none
def stL (n k d pc : Nat) (Ls st : List Value) (h : AH) : Option Act := match st with
  | .long x :: s => if k + 1 < n ∧ catOK Ls k = true then actGo (pc + d) ((Ls.set k (.long x)).set (k + 1) .null) s h else none
  | _ => none
def stD (n k d pc : Nat) (Ls st : List Value) (h : AH) : Option Act := match st with
  | .double x :: s => if k + 1 < n ∧ catOK Ls k = true then actGo (pc + d) ((Ls.set k (.double x)).set (k + 1) .null) s h else none
  | _ => none
def getF (c i pc : Nat) (Ls st : List Value) (h : AH) : Option Act := match st, fRes c i with
  | .ref a :: s, some (k, f) => if hK h a = k then (if isRf k f then (match hR h (16 * k + f) a with
      | some j => actGo (pc + 3) Ls (.ref j :: s) h
      | none => none) else actGo (pc + 3) Ls (.int (hI h (16 * k + f) a) :: s) h) else none
  | _, _ => none
def putOK (m : MD) (k f : Nat) : Bool := !(cT k f).2.2.2 || ((mN m).name == "<init>" && (mN m).cls == cR k)
def putF (m : MD) (i pc : Nat) (Ls st : List Value) (h : AH) : Option Act := match st, fRes (mC m) i with
  | .int v :: .ref a :: s, some (k, f) => if hK h a = k ∧ isRf k f = false ∧ putOK m k f = true then actGo (pc + 3) Ls s (sI h (16 * k + f) a v) else none
  | .ref v :: .ref a :: s, some (k, f) => if hK h a = k ∧ isRf k f = true ∧ putOK m k f = true then actGo (pc + 3) Ls s (sR h (16 * k + f) a v) else none
  | _, _ => none
def iald (lw : Bool) (pc : Nat) (Ls st : List Value) (h : AH) : Option Act := match st with
  | .int i :: .ref a :: s => if hK h a = 8 ∧ inA i (hN h a) = true then actGo (pc + 1) Ls (.int (hA h a i.toNatClampNeg) :: s) h else none
  | .int i :: .retAddr _ :: s => if lw = true ∧ inA i L = true then actGo (pc + 1) Ls (.int (xs i.toNatClampNeg) :: s) h else none
  | _ => none
def alen (lw : Bool) (pc : Nat) (Ls st : List Value) (h : AH) : Option Act := match st with
  | .ref a :: s => if hK h a = 8 then actGo (pc + 1) Ls (.int (Int32.ofNat (hN h a)) :: s) h else none
  | .retAddr _ :: s => if lw = true then actGo (pc + 1) Ls (.int (Int32.ofNat L) :: s) h else none
  | _ => none
def iast (pc : Nat) (Ls st : List Value) (h : AH) : Option Act := match st with
  | .int v :: .int i :: .ref a :: s => if hK h a = 8 ∧ inA i (hN h a) = true then actGo (pc + 1) Ls s (sA h a i.toNatClampNeg v) else none
  | _ => none
def lald (pc : Nat) (Ls st : List Value) (h : AH) : Option Act := none
def last (pc : Nat) (Ls st : List Value) (h : AH) : Option Act := none
def rowK (k : Nat) : Nat := match k with
  | 9 => 0
  | 10 => 2
  | _ => 5
def aald (pc : Nat) (Ls st : List Value) (h : AH) : Option Act := match st with
  | .int i :: .ref a :: s => if (hK h a = 9 ∨ hK h a = 10 ∨ hK h a = 11) ∧ inA i (hN h a) = true then (match hQ h a i.toNatClampNeg with
      | some j => actGo (pc + 1) Ls (.ref j :: s) h
      | none => none) else none
  | _ => none
def aast (pc : Nat) (Ls st : List Value) (h : AH) : Option Act := match st with
  | .ref v :: .int i :: .ref a :: s => if (hK h a = 9 ∨ hK h a = 10 ∨ hK h a = 11) ∧ inA i (hN h a) = true ∧ hK h v = rowK (hK h a) then actGo (pc + 1) Ls s (sQ h a i.toNatClampNeg v) else none
  | _ => none
/-- making: an object, or an exception with a text, thrown -/
def newO (m : MD) (i pc : Nat) (Ls st : List Value) (h : AH) : Option Act := match nRes (mC m) i with
  | some k => actGo (pc + 3) Ls (.ref (hn h) :: st) (nw h k 0 (cN k))
  | none => match decode (mB m) (pc + 3), decode (mB m) (pc + 4) with
    | .ok (.dup, 1), .ok (.ldc is, 2) => match decode (mB m) (pc + 6), decode (mB m) (pc + 9) with
      | .ok (.invokespecial ic, 3), .ok (.athrow, 1) => match xRes i ic with
        | some E => if mC m = 6 ∧ (sRT.any (fun q => q.1 == is)) = true ∧ mV m = 8 ∧ mH m = [] ∧ st = [] then some (.inr (.inr (.inr (E, bump h)))) else none
        | none => none
      | _, _ => none
    | .ok (.dup, 1), .ok (.ldc_w is, 3) => match decode (mB m) (pc + 7), decode (mB m) (pc + 10) with
      | .ok (.invokespecial ic, 3), .ok (.athrow, 1) => match xRes i ic with
        | some E => if mC m = 6 ∧ (sRT.any (fun q => q.1 == is)) = true ∧ mV m = 8 ∧ mH m = [] ∧ st = [] then some (.inr (.inr (.inr (E, bump h)))) else none
        | none => none
      | _, _ => none
    | _, _ => none
def newA (t : ArrayType) (pc : Nat) (Ls st : List Value) (h : AH) : Option Act := match t, st with
  | .int, .int n :: s => if 0 ≤ n ∧ n ≤ 10000 then actGo (pc + 2) Ls (.ref (hn h) :: s) (nw h 8 n.toNatClampNeg n.toNatClampNeg) else none
  | _, _ => none
def newQ (m : MD) (i pc : Nat) (Ls st : List Value) (h : AH) : Option Act := match st, qRes (mC m) i with
  | .int n :: s, some k => if 0 ≤ n ∧ n ≤ 10000 then actGo (pc + 3) Ls (.ref (hn h) :: s) (nw h k n.toNatClampNeg n.toNatClampNeg) else none
  | _, _ => none
def wds (s : List Value) : Nat := (s.map fun v => v.category).sum
/-- a call with n arguments popped off; its receiver with them where there is one -/
def clS (m : MD) (y : MD) (mode n : Nat) (st : List Value) (h : AH) : Option Act :=
  if mV y < mV m ∧ wds (st.drop n) ≤ 8 ∧ n ≤ st.length ∧ wds (st.take n) ≤ mM y then (if mode = 0 ∨ mode = 3 ∨ mode = 6 then some (.inr (.inr (.inl (y, (st.take n).reverse, st.drop n)))) else none) else none
def clV (m : MD) (y : MD) (n : Nat) (st : List Value) (h : AH) : Option Act :=
  match st.drop n with
  | .ref a :: rest => if mV y < mV m ∧ wds rest ≤ 8 ∧ n ≤ st.length ∧ wds (st.take n) + 1 ≤ mM y ∧ hK h a = mC y ∧ mC y < 8 then some (.inr (.inr (.inl (y, .ref a :: (st.take n).reverse, rest)))) else none
  | _ => none
def copy5 (m : MD) (pc : Nat) (Ls st : List Value) (h : AH) : Option Act := match st with
  | .int n :: .int dp :: .ref d :: .int sp :: .ref a :: s => if 2 ≤ mV m ∧ wds s ≤ 8 ∧ hK h a = 8 ∧ hK h d = 8 ∧ 0 ≤ sp ∧ 0 ≤ dp ∧ 0 ≤ n ∧ sp.toNatClampNeg + n.toNatClampNeg ≤ hN h a ∧ dp.toNatClampNeg + n.toNatClampNeg ≤ hN h d then
      actGo (pc + 3) Ls s (cpA h a sp.toNatClampNeg d dp.toNatClampNeg n.toNatClampNeg) else none
  | _ => none
def min9 (m : MD) (pc : Nat) (Ls st : List Value) (h : AH) : Option Act := match st with
  | .int y :: .int x :: s => if mV m ≠ 0 ∧ wds s ≤ 8 then actGo (pc + 3) Ls (.int (if y < x then y else x) :: s) h else none
  | _ => none
def invS (m : MD) (i pc : Nat) (Ls st : List Value) (h : AH) : Option Act := match mRes (mC m) i with
  | some (y, mode, n) => if mode = 8 then copy5 m pc Ls st h else if mode = 9 then min9 m pc Ls st h else clS m y mode n st h
  | none => none
def invV (m : MD) (i : Nat) (st : List Value) (h : AH) : Option Act := match mRes (mC m) i with
  | some (y, mode, n) => if mode = 1 ∨ mode = 5 then clV m y n st h else none
  | none => none
def invI (m : MD) (i pc : Nat) (Ls st : List Value) (h : AH) : Option Act := match mRes (mC m) i with
  | some (y, mode, n) => if mode = 7 then (match st with
      | .ref _ :: s => if mV m ≠ 0 ∧ wds s ≤ 8 then actGo (pc + 3) Ls s h else none
      | _ => none) else if mode = 2 ∨ mode = 4 then clV m y n st h else none
  | none => none
def retI (m : MD) (st : List Value) (h : AH) : Option Act := match st with
  | [.int v] => if mR m = some .int ∨ (mR m = some .boolean ∧ (v = 0 ∨ v = 1)) then some (.inr (.inl (some (.int v), h))) else none
  | _ => none
def tswT (pc : Nat) (d lo hi : Int) (offs : Array Int) (x : Int32) : Option Int := if x.toInt < lo ∨ hi < x.toInt then some d else offs[(x.toInt - lo).toNat]?
def stepI (m : MD) (pc : Nat) (Ls st : List Value) (h : AH) (i : Instr) (len : Nat) : Option Act := match i, len with
  | .iload_n k, 1 => ldI k 1 pc Ls st h
  | .iload k, 2 => ldI k 2 pc Ls st h
  | .aload_n k, 1 => ldA k 1 pc Ls st h
  | .aload k, 2 => ldA k 2 pc Ls st h
  | .lload_n k, 1 => ldL k 1 pc Ls st h
  | .lload k, 2 => ldL k 2 pc Ls st h
  | .dload k, 2 => ldD k 2 pc Ls st h
  | .istore_n k, 1 => stI (mM m) k 1 pc Ls st h
  | .istore k, 2 => stI (mM m) k 2 pc Ls st h
  | .astore_n k, 1 => stA (mM m) k 1 pc Ls st h
  | .astore k, 2 => stA (mM m) k 2 pc Ls st h
  | .lstore_n k, 1 => stL (mM m) k 1 pc Ls st h
  | .lstore k, 2 => stL (mM m) k 2 pc Ls st h
  | .dstore k, 2 => stD (mM m) k 2 pc Ls st h
  | .iconst n, 1 => actGo (pc + 1) Ls (.int (Int32.ofInt n) :: st) h
  | .bipush n, 2 => actGo (pc + 2) Ls (.int (Int8.ofInt n).toInt32 :: st) h
  | .sipush n, 3 => actGo (pc + 3) Ls (.int (Int16.ofInt n).toInt32 :: st) h
  | .dconst k, 1 => if k = 1 then actGo (pc + 1) Ls (.double FP.dconst1 :: st) h else if k = 0 then actGo (pc + 1) Ls (.double FP.dconst0 :: st) h else none
  | .ldc j, 2 => match iRes (mC m) j with
    | some v => actGo (pc + 2) Ls (.int v :: st) h
    | none => none
  | .ldc_w j, 3 => match iRes (mC m) j with
    | some v => actGo (pc + 3) Ls (.int v :: st) h
    | none => none
  | .ldc2_w j, 3 => match lRes (mC m) j with
    | some v => actGo (pc + 3) Ls (.long v :: st) h
    | none => none
  | .getfield j, 3 => getF (mC m) j pc Ls st h
  | .putfield j, 3 => putF m j pc Ls st h
  | .iaload, 1 => iald L xs (mC m == 8) pc Ls st h
  | .iastore, 1 => iast pc Ls st h
  | .laload, 1 => lald pc Ls st h
  | .lastore, 1 => last pc Ls st h
  | .aaload, 1 => aald pc Ls st h
  | .aastore, 1 => aast pc Ls st h
  | .arraylength, 1 => alen L (mC m == 8) pc Ls st h
  | .iadd, 1 => op2 (fun x y => x + y) pc Ls st h
  | .isub, 1 => op2 (fun x y => x - y) pc Ls st h
  | .imul, 1 => op2 (fun x y => x * y) pc Ls st h
  | .iand, 1 => op2 (fun x y => x &&& y) pc Ls st h
  | .ior, 1 => op2 (fun x y => x ||| y) pc Ls st h
  | .ixor, 1 => op2 (fun x y => x ^^^ y) pc Ls st h
  | .ishl, 1 => op2 (fun x y => x <<< (y &&& 31)) pc Ls st h
  | .ishr, 1 => op2 (fun x y => x >>> (y &&& 31)) pc Ls st h
  | .iushr, 1 => op2 (fun x y => (x.toUInt32 >>> (y.toUInt32 &&& Int32.toUInt32 31)).toInt32) pc Ls st h
  | .idiv, 1 => match st with
    | .int y :: .int x :: s => if y = 0 then none else actGo (pc + 1) Ls (.int (x / y) :: s) h
    | _ => none
  | .irem, 1 => match st with
    | .int y :: .int x :: s => if y = 0 then none else actGo (pc + 1) Ls (.int (x - x / y * y) :: s) h
    | _ => none
  | .ineg, 1 => match st with
    | .int x :: s => actGo (pc + 1) Ls (.int (-x) :: s) h
    | _ => none
  | .ladd, 1 => opL (fun x y => x + y) pc Ls st h
  | .lmul, 1 => opL (fun x y => x * y) pc Ls st h
  | .i2l, 1 => match st with
    | .int x :: s => actGo (pc + 1) Ls (.long x.toInt64 :: s) h
    | _ => none
  | .i2d, 1 => match st with
    | .int x :: s => actGo (pc + 1) Ls (.double (FP.i2d x) :: s) h
    | _ => none
  | .lcmp, 1 => match st with
    | .long y :: .long x :: s => actGo (pc + 1) Ls (.int (lg_cmp x y) :: s) h
    | _ => none
  | .dcmp o, 1 => match st with
    | .double y :: .double x :: s => actGo (pc + 1) Ls (.int (Op.cmpValue (FP.dcmp x y) o) :: s) h
    | _ => none
  | .ddiv, 1 => match st with
    | .double y :: .double x :: s => if FP.ddiv x y &&& 0x7fffffffffffffff ≤ 0x7ff0000000000000 then actGo (pc + 1) Ls (.double (FP.ddiv x y) :: s) h else none
    | _ => none
  | .dup, 1 => match st with
    | v :: s => if v.category = 1 then actGo (pc + 1) Ls (v :: v :: s) h else none
    | _ => none
  | .dup2, 1 => match st with
    | v :: w :: s => if v.category = 1 ∧ w.category = 1 then actGo (pc + 1) Ls (v :: w :: v :: w :: s) h else none
    | _ => none
  | .pop, 1 => match st with
    | v :: s => if v.category = 1 then actGo (pc + 1) Ls s h else none
    | _ => none
  | .iinc k n, 3 => match Ls[k]? with
    | some (.int x) => if k < mM m ∧ catOK Ls k = true then actGo (pc + 3) (Ls.set k (.int (x + Int32.ofInt n))) st h else none
    | _ => none
  | .ifCond c o, 3 => match st with
    | .int x :: s => if jok pc o = true then actGo (if cmpI c x 0 = true then jmp pc o else pc + 3) Ls s h else none
    | _ => none
  | .if_icmp c o, 3 => match st with
    | .int y :: .int x :: s => if jok pc o = true then actGo (if cmpI c x y = true then jmp pc o else pc + 3) Ls s h else none
    | _ => none
  | .goto o, 3 => if jok pc o = true then actGo (jmp pc o) Ls st h else none
  | .tableswitch d lo hi offs, _ => match st with
    | .int x :: s => match tswT pc d lo hi offs x with
      | some o => if jok pc o = true then actGo (jmp pc o) Ls s h else none
      | none => none
    | _ => none
  | .lookupswitch d ps, _ => match st with
    | .int x :: s => if (ps.toList.zip (ps.toList.drop 1)).all (fun q => decide (q.1.1 < q.2.1)) = true ∧ jok pc (Op.lookupswitch.offset ps.toList d x.toInt) = true then actGo (jmp pc (Op.lookupswitch.offset ps.toList d x.toInt)) Ls s h else none
    | _ => none
  | .new j, 3 => newO m j pc Ls st h
  | .newarray t, 2 => newA t pc Ls st h
  | .anewarray j, 3 => newQ m j pc Ls st h
  | .invokestatic j, 3 => invS m j pc Ls st h
  | .invokevirtual j, 3 => invV m j st h
  | .invokespecial j, 3 => invI m j pc Ls st h
  | .ireturn, 1 => retI m st h
  | .lreturn, 1 => match st with
    | [.long v] => if mR m = some .long then some (.inr (.inl (some (.long v), h))) else none
    | _ => none
  | .dreturn, 1 => match st with
    | [.double v] => if mR m = some .double then some (.inr (.inl (some (.double v), h))) else none
    | _ => none
  | .return_, 1 => if mR m = none ∧ st = [] then some (.inr (.inl (none, h))) else none
  | _, _ => none
def stp (m : MD) (pc : Nat) (Ls st : List Value) (h : AH) : Option Act := match decode (mB m) pc with
  | .ok q => stepI L xs m pc Ls st h q.1 q.2
  | .error _ => none
/-- where a throw is caught: the first row of the table that covers and names the class -/
def hfind (pc : Nat) (E : String) : List (Nat × Nat × Nat × Nat) → Option Nat
  | [] => none
  | q :: t => if q.1 ≤ pc ∧ pc < q.2.1 then (match eRes q.2.2.2 with
    | some E' => if E' = E then some q.2.2.1 else hfind pc E t
    | none => none) else hfind pc E t
def hstep0 (m : MD) (pc : Nat) (Ls : List Value) (E : String) : Option (Nat × List Value) := match hfind pc E (mH m) with
  | none => none
  | some q => if mC m = 8 then (match decode (mB m) q with
    | .ok (.astore_n k, 1) => if (k : Nat) < mM m ∧ catOK Ls k = true then some (q + 1, Ls.set k .null) else none
    | .ok (.astore k, 2) => if k < mM m ∧ catOK Ls k = true then some (q + 2, Ls.set k .null) else none
    | _ => none) else none
def isV (m : MD) (pc : Nat) : Bool := match decode (mB m) pc with
  | .ok (.invokevirtual _, 3) => true
  | _ => false
def hstep (m : MD) (pc : Nat) (Ls : List Value) (E : String) : Option (Nat × List Value) := if isV m pc = true then hstep0 m pc Ls E else none
/-- what a call's outcome goes on with -/
def kont (r : Option Res) (k : Option Value → AH → Option Res) (kx : String → AH → Option Res) : Option Res := match r with
  | some (.inl (v, h)) => k v h
  | some (.inr (E, h)) => kx E h
  | none => none
def kx {α : Type} (q : Option (Nat × List Value)) (k : Nat → List Value → Option α) : Option α := match q with
  | some (pc, Ls) => k pc Ls
  | none => none
def run : Nat → MD → Nat → List Value → List Value → AH → Option Res
  | 0, _, _, _, _, _ => none
  | n + 1, m, pc, Ls, st, h => match stp L xs m pc Ls st h with
    | none => none
    | some (.inl q) => run n m q.1 q.2.1 q.2.2.1 q.2.2.2
    | some (.inr (.inl q)) => some (.inl q)
    | some (.inr (.inr (.inl q))) => kont (run n q.1 0 (entL q.2.1 (mM q.1)) [] h) (fun v h' => run n m (pc + 3) Ls (v.toList ++ q.2.2) h') (fun E h' => kx (hstep m pc Ls E) (fun pc' Ls' => run n m pc' Ls' [] h'))
    | some (.inr (.inr (.inr q))) => some (.inr q)
theorem kont_mono {r r' : Option Res} {k k' : Option Value → AH → Option Res} {x x' : String → AH → Option Res} {z : Res} (h : kont r k x = some z) (hr : ∀ w, r = some w → r' = some w) (hk : ∀ v g, k v g = some z → k' v g = some z) (hx : ∀ E g, x E g = some z → x' E g = some z) : kont r' k' x' = some z := by
  cases r with
  | none => cases h
  | some w =>
    rw [hr w rfl]
    rcases w with ⟨v, g⟩ | ⟨E, g⟩
    · exact hk v g h
    · exact hx E g h
theorem run_succ : ∀ (n : Nat) (m : MD) (pc : Nat) (Ls st : List Value) (h : AH) (r : Res), run L xs n m pc Ls st h = some r → run L xs (n + 1) m pc Ls st h = some r
  | 0, _, _, _, _, _, _, e => by cases e
  | n + 1, m, pc, Ls, st, h, r, e => by
    unfold run at e ⊢
    cases hs : stp L xs m pc Ls st h with
    | none => rw [hs] at e; cases e
    | some a =>
      rw [hs] at e
      rcases a with q | q | q | q
      · exact run_succ n _ _ _ _ _ _ e
      · exact e
      · refine kont_mono e (fun w hw => run_succ n _ _ _ _ _ _ hw) (fun v g hv => run_succ n _ _ _ _ _ _ hv) (fun E g hv => ?_)
        cases hh : hstep m pc Ls E with
        | none => simp only [hh, kx] at hv; cases hv
        | some z => simp only [hh, kx] at hv ⊢; exact run_succ n _ _ _ _ _ _ hv
      · exact e
theorem run_le {n k : Nat} (hnk : n ≤ k) {m : MD} {pc : Nat} {Ls st : List Value} {h : AH} {r : Res} (e : run L xs n m pc Ls st h = some r) : run L xs k m pc Ls st h = some r := by
  induction hnk with
  | refl => exact e
  | step _ ih => exact run_succ L xs _ _ _ _ _ _ _ ih
theorem run_det {n k : Nat} {m : MD} {pc : Nat} {Ls st : List Value} {h : AH} {r r' : Res} (e : run L xs n m pc Ls st h = some r) (e' : run L xs k m pc Ls st h = some r') : r = r' := by
  have h1 := run_le L xs (Nat.le_max_left n k) e
  have h2 := run_le L xs (Nat.le_max_right n k) e'
  exact Option.some.inj (h1.symm.trans h2)
/-- the value of a run -/
noncomputable def ev (m : MD) (pc : Nat) (Ls st : List Value) (h : AH) : Option Res := by
  classical exact if H : ∃ r n, run L xs n m pc Ls st h = some r then some H.choose else none
theorem ev_iff {m : MD} {pc : Nat} {Ls st : List Value} {h : AH} {r : Res} : ev L xs m pc Ls st h = some r ↔ ∃ n, run L xs n m pc Ls st h = some r := by
  classical
  unfold ev
  by_cases H : ∃ r n, run L xs n m pc Ls st h = some r
  · rw [dif_pos H]
    obtain ⟨n, hn⟩ := H.choose_spec
    constructor
    · intro e
      cases e
      exact ⟨n, hn⟩
    · rintro ⟨k, hk⟩
      rw [run_det L xs hn hk]
  · rw [dif_neg H]
    constructor
    · intro e; cases e
    · rintro ⟨k, hk⟩
      exact absurd ⟨r, k, hk⟩ H
theorem ev_go {m : MD} {pc : Nat} {Ls st : List Value} {h : AH} {q : Nat × List Value × List Value × AH} (hs : stp L xs m pc Ls st h = some (.inl q)) : ev L xs m pc Ls st h = ev L xs m q.1 q.2.1 q.2.2.1 q.2.2.2 := by
  apply Option.ext
  intro r
  have e1 := ev_iff (L := L) (xs := xs) (m := m) (pc := pc) (Ls := Ls) (st := st) (h := h) (r := r)
  have e2 := ev_iff (L := L) (xs := xs) (m := m) (pc := q.1) (Ls := q.2.1) (st := q.2.2.1) (h := q.2.2.2) (r := r)
  rw [e1, e2]
  constructor
  · rintro ⟨n, hn⟩
    cases n with
    | zero => cases hn
    | succ n =>
      unfold run at hn
      rw [hs] at hn
      exact ⟨n, hn⟩
  · rintro ⟨n, hn⟩
    refine ⟨n + 1, ?_⟩
    unfold run
    rw [hs]
    exact hn
theorem ev_ret {m : MD} {pc : Nat} {Ls st : List Value} {h : AH} {q : Option Value × AH} (hs : stp L xs m pc Ls st h = some (.inr (.inl q))) : ev L xs m pc Ls st h = some (.inl q) := by
  rw [ev_iff]
  refine ⟨1, ?_⟩
  unfold run
  rw [hs]
theorem ev_thr {m : MD} {pc : Nat} {Ls st : List Value} {h : AH} {q : String × AH} (hs : stp L xs m pc Ls st h = some (.inr (.inr (.inr q)))) : ev L xs m pc Ls st h = some (.inr q) := by
  rw [ev_iff]
  refine ⟨1, ?_⟩
  unfold run
  rw [hs]
theorem ev_call {m : MD} {pc : Nat} {Ls st : List Value} {h : AH} {y : MD} {vs rest : List Value} (hs : stp L xs m pc Ls st h = some (.inr (.inr (.inl (y, vs, rest))))) :
    ev L xs m pc Ls st h = kont (ev L xs y 0 (entL vs (mM y)) [] h) (fun v h' => ev L xs m (pc + 3) Ls (v.toList ++ rest) h') (fun E h' => kx (hstep m pc Ls E) (fun pc' Ls' => ev L xs m pc' Ls' [] h')) := by
  apply Option.ext
  intro r
  rw [ev_iff]
  constructor
  · rintro ⟨n, hn⟩
    cases n with
    | zero => cases hn
    | succ n =>
      unfold run at hn
      rw [hs] at hn
      refine kont_mono hn (fun w hw => (ev_iff (L := L) (xs := xs)).mpr ⟨n, hw⟩) (fun v g hv => (ev_iff (L := L) (xs := xs)).mpr ⟨n, hv⟩) (fun E g hv => ?_)
      cases hh : hstep m pc Ls E with
      | none => simp only [hh, kx] at hv; cases hv
      | some z => simp only [hh, kx] at hv ⊢; exact (ev_iff (L := L) (xs := xs)).mpr ⟨n, hv⟩
  · intro e
    cases h1 : ev L xs y 0 (entL vs (mM y)) [] h with
    | none => rw [h1] at e; cases e
    | some w =>
      rw [h1] at e
      obtain ⟨n1, hn1⟩ := (ev_iff L xs).mp h1
      rcases w with ⟨v, g⟩ | ⟨E, g⟩
      · obtain ⟨n2, hn2⟩ := (ev_iff L xs).mp (show ev L xs m (pc + 3) Ls (v.toList ++ rest) g = some r from e)
        refine ⟨max n1 n2 + 1, ?_⟩
        unfold run
        rw [hs]
        show kont (run L xs (max n1 n2) y 0 (entL vs (mM y)) [] h) _ _ = _
        rw [run_le L xs (Nat.le_max_left n1 n2) hn1]
        exact run_le L xs (Nat.le_max_right n1 n2) hn2
      · cases hh : hstep m pc Ls E with
        | none => simp only [hh, kont, kx] at e; cases e
        | some z =>
          simp only [hh, kont, kx] at e
          obtain ⟨n2, hn2⟩ := (ev_iff L xs).mp (show ev L xs m z.1 z.2 [] g = some r from e)
          refine ⟨max n1 n2 + 1, ?_⟩
          unfold run
          rw [hs]
          show kont (run L xs (max n1 n2) y 0 (entL vs (mM y)) [] h) _ _ = _
          rw [run_le L xs (Nat.le_max_left n1 n2) hn1]
          simp only [kont, hh, kx]
          exact run_le L xs (Nat.le_max_right n1 n2) hn2
end
