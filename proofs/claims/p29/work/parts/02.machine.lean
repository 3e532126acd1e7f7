/-! AN ABSTRACT MACHINE: the bytecode of the claim's methods, run over a heap of typed functions whose references are plain numbers (the order of making). -/
abbrev MD : Type := MethodName × ByteArray × Nat × Option FieldType × Nat × Nat × List (Nat × Nat × Nat × Nat)
def mN (m : MD) : MethodName := m.1
def mB (m : MD) : ByteArray := m.2.1
def mM (m : MD) : Nat := m.2.2.1
def mR (m : MD) : Option FieldType := m.2.2.2.1
def mC (m : MD) : Nat := m.2.2.2.2.1
def mV (m : MD) : Nat := m.2.2.2.2.2.1
def mH (m : MD) : List (Nat × Nat × Nat × Nat) := m.2.2.2.2.2.2
/-- the heap: kinds, int fields, reference fields, lengths, int rows, reference rows, long rows, how many things, cells and slots used -/
abbrev AH : Type := (Nat → Nat) × (Nat → Nat → Int32) × (Nat → Nat → Option Nat) × (Nat → Nat) × (Nat → Nat → Int32) × (Nat → Nat → Option Nat) × (Nat → Nat → Int64) × Nat × Nat × Nat
def hK (h : AH) : Nat → Nat := h.1
def hI (h : AH) : Nat → Nat → Int32 := h.2.1
def hR (h : AH) : Nat → Nat → Option Nat := h.2.2.1
def hN (h : AH) : Nat → Nat := h.2.2.2.1
def hA (h : AH) : Nat → Nat → Int32 := h.2.2.2.2.1
def hQ (h : AH) : Nat → Nat → Option Nat := h.2.2.2.2.2.1
def hL (h : AH) : Nat → Nat → Int64 := h.2.2.2.2.2.2.1
def hn (h : AH) : Nat := h.2.2.2.2.2.2.2.1
def hc (h : AH) : Nat := h.2.2.2.2.2.2.2.2.1
def hs (h : AH) : Nat := h.2.2.2.2.2.2.2.2.2
def u2 {α : Type} (f : Nat → Nat → α) (i j : Nat) (v : α) : Nat → Nat → α := fun a b => if a = i ∧ b = j then v else f a b
def sI (h : AH) (F i : Nat) (v : Int32) : AH := (hK h, u2 (hI h) F i v, hR h, hN h, hA h, hQ h, hL h, hn h, hc h, hs h)
def sR (h : AH) (F i j : Nat) : AH := (hK h, hI h, u2 (hR h) F i (some j), hN h, hA h, hQ h, hL h, hn h, hc h, hs h)
def sA (h : AH) (a j : Nat) (v : Int32) : AH := (hK h, hI h, hR h, hN h, u2 (hA h) a j v, hQ h, hL h, hn h, hc h, hs h)
def sQ (h : AH) (a j v : Nat) : AH := (hK h, hI h, hR h, hN h, hA h, u2 (hQ h) a j (some v), hL h, hn h, hc h, hs h)
def sL (h : AH) (a j : Nat) (v : Int64) : AH := (hK h, hI h, hR h, hN h, hA h, hQ h, u2 (hL h) a j v, hn h, hc h, hs h)
def cpA (h : AH) (src sp dst dp n : Nat) : AH := (hK h, hI h, hR h, hN h, fun a j => if a = dst then va_cpy (hA h src) (hA h dst) sp dp n j else hA h a j, hQ h, hL h, hn h, hc h, hs h)
def nw (h : AH) (k len sl : Nat) : AH := (fun i => if i = hn h then k else hK h i, fun F i => if i = hn h then 0 else hI h F i, fun F i => if i = hn h then none else hR h F i, fun i => if i = hn h then len else hN h i, fun a j => if a = hn h then 0 else hA h a j, fun a j => if a = hn h then none else hQ h a j, fun a j => if a = hn h then 0 else hL h a j, hn h + 1, hc h + 1, hs h + sl)
/-- an exception is made: room alone -/
def bump (h : AH) : AH := (hK h, hI h, hR h, hN h, hA h, hQ h, hL h, hn h, hc h + 1, hs h + 6)
abbrev Res : Type := (Option Value × AH) ⊕ (String × AH)
def rH (r : Res) : AH := match r with
  | .inl q => q.2
  | .inr q => q.2
/-- what an instruction does: go on; end with a value; call; throw -/
abbrev Act : Type := (Nat × List Value × List Value × AH) ⊕ ((Option Value × AH) ⊕ ((MD × List Value × List Value) ⊕ (String × AH)))
/-- fields of each class -/
def cN (k : Nat) : Nat := [9, 8, 9, 5, 6, 10, 7, 9].getD k 0
def cTy (k : Nat) : Nat → FieldType := match k with
  | 0 => tyX0
  | 1 => tyX1
  | 2 => tyX2
  | 3 => tyX3
  | 4 => tyX4
  | 5 => tyX5
  | 6 => tyX6
  | _ => tyX0
def cT (k : Nat) : u_T := match k with
  | 0 => TX0
  | 1 => TX1
  | 2 => TX2
  | 3 => TX3
  | 4 => TX4
  | 5 => TX5
  | 6 => TX6
  | _ => TX0
def cR (k : Nat) : String := match k with
  | 0 => RX0
  | 1 => RX1
  | 2 => RX2
  | 3 => RX3
  | 4 => RX4
  | 5 => RX5
  | 6 => RX6
  | _ => RX0
def isRf (k s : Nat) : Bool := match cTy k s with
  | .int => false
  | _ => true
def catOK (Ls : List Value) (i : Nat) : Bool := i == 0 || (Ls.getD (i - 1) .null).category == 1
def entL (vs : List Value) (n : Nat) : List Value := let l := vs.flatMap (fun v => if v.category = 2 then [v, .null] else [v]); l ++ List.replicate (n - l.length) .null
def cmpI : ClassFile.Cond → Int32 → Int32 → Bool
  | .eq, x, y => decide (x = y)
  | .ne, x, y => decide (¬ x = y)
  | .lt, x, y => decide (x < y)
  | .ge, x, y => decide (y ≤ x)
  | .gt, x, y => decide (y < x)
  | .le, x, y => decide (x ≤ y)
def jmp (pc : Nat) (off : Int) : Nat := ((pc : Int) + off).toNat
def jok (pc : Nat) (off : Int) : Bool := decide (0 ≤ (pc : Int) + off)
def inA (i : Int32) (n : Nat) : Bool := decide (¬ (i < 0 ∨ n ≤ i.toNatClampNeg))
