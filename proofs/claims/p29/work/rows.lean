section
-- ===== PART A: goes FIRST, ahead of the names: the tables' words, and 'selects' of the private methods out of them =====
/-- a private method of a class that the tables say can be made, by its rows of tables_1 -/
def lw_okq (q : MethodName × Nat) : Prop := (q.1.cls ≠ "java/lang/invoke/MethodHandle" ∧ q.1.cls ≠ "java/lang/invoke/VarHandle") ∧ Cond.instantiable q.1.cls q.2 ∈ tables_1 ∧ Cond.privateMethod q.1 ∈ tables_1 ∧ Cond.instanceMethod q.1 ∈ tables_1
theorem lw_p0 : lw_okq (⟨"java/lang/Throwable", "fillInStackTrace", "(I)Ljava/lang/Throwable;"⟩, 6) := ⟨⟨by decide +kernel, by decide +kernel⟩, List.mem_of_getElem? (i := 328) (by decide +kernel), List.mem_of_getElem? (i := 326) (by decide +kernel), List.mem_of_getElem? (i := 327) (by decide +kernel)⟩
theorem lw_p1 : lw_okq (⟨"CrossingPosts", "save", "()V"⟩, 7) := ⟨⟨by decide +kernel, by decide +kernel⟩, List.mem_of_getElem? (i := 19) (by decide +kernel), List.mem_of_getElem? (i := 374) (by decide +kernel), List.mem_of_getElem? (i := 375) (by decide +kernel)⟩
theorem lw_p2 : lw_okq (⟨"CrossingPosts$Roster", "place", "(II)V"⟩, 6) := ⟨⟨by decide +kernel, by decide +kernel⟩, List.mem_of_getElem? (i := 174) (by decide +kernel), List.mem_of_getElem? (i := 493) (by decide +kernel), List.mem_of_getElem? (i := 494) (by decide +kernel)⟩
theorem lw_p3 : lw_okq (⟨"CrossingPosts$Roster", "nearest", "(LCrossingPosts$State;I)I"⟩, 6) := ⟨⟨by decide +kernel, by decide +kernel⟩, List.mem_of_getElem? (i := 174) (by decide +kernel), List.mem_of_getElem? (i := 505) (by decide +kernel), List.mem_of_getElem? (i := 506) (by decide +kernel)⟩
theorem lw_p4 : lw_okq (⟨"CrossingPosts$Roster", "placeOrLeaveOpen", "(II)V"⟩, 6) := ⟨⟨by decide +kernel, by decide +kernel⟩, List.mem_of_getElem? (i := 174) (by decide +kernel), List.mem_of_getElem? (i := 513) (by decide +kernel), List.mem_of_getElem? (i := 514) (by decide +kernel)⟩
theorem lw_p5 : lw_okq (⟨"CrossingPosts$Roster", "reasonNow", "()I"⟩, 6) := ⟨⟨by decide +kernel, by decide +kernel⟩, List.mem_of_getElem? (i := 174) (by decide +kernel), List.mem_of_getElem? (i := 517) (by decide +kernel), List.mem_of_getElem? (i := 518) (by decide +kernel)⟩
theorem lw_p6 : lw_okq (⟨"CrossingPosts", "openOnDay", "(LCrossingPosts$State;I)I"⟩, 7) := ⟨⟨by decide +kernel, by decide +kernel⟩, List.mem_of_getElem? (i := 19) (by decide +kernel), List.mem_of_getElem? (i := 586) (by decide +kernel), List.mem_of_getElem? (i := 587) (by decide +kernel)⟩
theorem lw_p7 : lw_okq (⟨"CrossingPosts$Replacements", "collectPlaces", "(LCrossingPosts$State;LCrossingPosts$Roster;)V"⟩, 5) := ⟨⟨by decide +kernel, by decide +kernel⟩, List.mem_of_getElem? (i := 206) (by decide +kernel), List.mem_of_getElem? (i := 671) (by decide +kernel), List.mem_of_getElem? (i := 672) (by decide +kernel)⟩
theorem lw_p8 : lw_okq (⟨"CrossingPosts$Replacements", "addGuardToWays", "(LCrossingPosts$Guard;)V"⟩, 5) := ⟨⟨by decide +kernel, by decide +kernel⟩, List.mem_of_getElem? (i := 206) (by decide +kernel), List.mem_of_getElem? (i := 679) (by decide +kernel), List.mem_of_getElem? (i := 680) (by decide +kernel)⟩
theorem lw_p9 : lw_okq (⟨"CrossingPosts$Replacements", "choose", "()V"⟩, 5) := ⟨⟨by decide +kernel, by decide +kernel⟩, List.mem_of_getElem? (i := 206) (by decide +kernel), List.mem_of_getElem? (i := 685) (by decide +kernel), List.mem_of_getElem? (i := 686) (by decide +kernel)⟩
def lw_privs_1 : List (MethodName × Nat) := [(⟨"java/lang/Throwable", "fillInStackTrace", "(I)Ljava/lang/Throwable;"⟩, 6), (⟨"CrossingPosts", "save", "()V"⟩, 7), (⟨"CrossingPosts$Roster", "place", "(II)V"⟩, 6), (⟨"CrossingPosts$Roster", "nearest", "(LCrossingPosts$State;I)I"⟩, 6), (⟨"CrossingPosts$Roster", "placeOrLeaveOpen", "(II)V"⟩, 6), (⟨"CrossingPosts$Roster", "reasonNow", "()I"⟩, 6), (⟨"CrossingPosts", "openOnDay", "(LCrossingPosts$State;I)I"⟩, 7), (⟨"CrossingPosts$Replacements", "collectPlaces", "(LCrossingPosts$State;LCrossingPosts$Roster;)V"⟩, 5), (⟨"CrossingPosts$Replacements", "addGuardToWays", "(LCrossingPosts$Guard;)V"⟩, 5), (⟨"CrossingPosts$Replacements", "choose", "()V"⟩, 5)]
theorem lw_r1 : ∀ q ∈ lw_privs_1, lw_okq q := List.forall_mem_cons.mpr ⟨lw_p0, List.forall_mem_cons.mpr ⟨lw_p1, List.forall_mem_cons.mpr ⟨lw_p2, List.forall_mem_cons.mpr ⟨lw_p3, List.forall_mem_cons.mpr ⟨lw_p4, List.forall_mem_cons.mpr ⟨lw_p5, List.forall_mem_cons.mpr ⟨lw_p6, List.forall_mem_cons.mpr ⟨lw_p7, List.forall_mem_cons.mpr ⟨lw_p8, List.forall_mem_cons.mpr ⟨lw_p9, fun _ h => absurd h List.not_mem_nil⟩⟩⟩⟩⟩⟩⟩⟩⟩⟩
def lw_privs : List (MethodName × Nat) := lw_privs_1
def lw_tbl : List Cond := k2_sels lw_privs ++ tables_1
theorem lw_privs_ok : ∀ q ∈ lw_privs, lw_okq q := lw_r1
/-- the streams that the claim lets the run draw from -/
abbrev lw_cs : List Choice := [Jvm.Choice.named "NaN.bits"]
theorem lw_bits : nanBits ∈ lw_cs := by first | decide | exact List.mem_cons_self | simp [lw_cs, nanBits]
-- ===== end of PART A; then your names; then what follows =====
/-! THE CLAIM OUT OF ONE WALK OF THE LAW'S BODY. Your part is whole_start (and what it stands on); all else here is the same for every law, but numbers. -/
def R_law : String := "CrossingPostsLaw"
def lw_P (b : Addr) (xs : List Int32) (args : Array Value) (s : State) : Prop := args = #[.ref b] ∧ s.IntsAt b xs ∧ xs.length ≤ 260 ∧ (Jvm.Cond.and given_1 narrow_1).before args s = true
/-- what a walk over the start with the record d0 says of its end, said of the start itself -/
theorem lw_closed {s t : State} {o : Outcome} {d0 : Drawn} {L : List Loc} {k n : Nat} (hd0 : s.drawn.sameBut d0 lw_cs) (hv : ∃ v, o = .returned v) (hW : (s.setDrawn d0).WarmedH t.vm) (hs : (s.setDrawn d0).sameButNew ({ t with vm := s.vm } : State) L k n) : State.butDraws s t lw_cs (fun t1 => Framed s o t1 L k n) := by
  have h2 : t.drawn = d0 := congrArg State.drawn hs.1
  refine ⟨⟨hv, hW, State.sameButNew.setDrawn hs s.drawn⟩, ?_, by decide⟩
  rw [h2]
  exact hd0
def lw_Q (_ : Array Value) (s : State) (o : Outcome) (t : State) : Prop := o = .returned (some (.int 1)) ∧ State.butDraws s t lw_cs (fun t1 => Framed s o t1 [] 600130 7301080)
def lw_Z (below : List Frame) (a : Array Value) (s : State) : State → Prop := fun t => ∃ o, t.status = .running ∧ Ended t below o ∧ lw_Q a s o t
/-- the law's own end, with 1 on the stack, nothing written that was there before, its room as the claim has it; d0: the record of draws at this point (at the entry s.drawn: begin with 'refine W.base ?_' and 'have hd0 := Drawn.sameBut.refl s.drawn lw_cs') -/
theorem lw_ret {p : Program} {l : Launch} {e : Env} {s : State} {m : MethodId} {below : List Frame} {meth : Method} {c : Code} {b : Nat} {d0 : Drawn} (hd0 : s.drawn.sameBut d0 lw_cs) (hx : p.tables.exec = Jvm.exec) (hb : c.code = code) (hr : meth.sig.returnType = ret) (hlocks : meth.locks = false) {pc : Nat} {H : Heap} {ls : Array Slot} (hdg : decode code pc = .ok (.ireturn, 1)) : W p l e room_1 (s.setDrawn d0) m #[Value.ref b] below meth c H [] 600130 7301080 (lw_Z below #[Value.ref b] s) (F0 m pc ls [.int 1]) := by
  intro T hT X
  obtain ⟨fs, hret, hrun, hended, hW, hframe⟩ := X.leave (v := some (.int 1)) (hlocks := hlocks) (fun h => by rw [hr] at h; cases h)
  have hmeth' : T.vm.method? m = some meth := X.method'
  refine ⟨T.setFrames fs, ?_, .returned (some (.int 1)), hrun, hended, rfl, lw_closed hd0 ⟨_, rfl⟩ hW hframe⟩
  jvm_step X.here [X.here.top, hx, hb, hdg, hmeth', hr, ret, narrow_b1]
  (try refine ⟨rfl, ?_⟩); (try refine ⟨rfl, ?_⟩)
  first | (intro acts; rw [hret _ acts rfl rfl rfl]) | rw [hret _ _ rfl rfl rfl]
  exact Steps.refl _
/-- what holds at the law's entry: the machine, the code, the tables' words (any of lw_tbl by 'hts w (by decide +kernel)'), the script of L ints xs at the cell b, what the Statement gives of the start (any of its parts by flat_of_before) -/
def lw_At (p : Program) (s : State) (m : MethodId) (meth : Method) (c : Code) (b L : Nat) (xs : Nat → Int32) : Prop :=
  p.tables.exec = Jvm.exec ∧ c.code = code ∧ meth.sig.returnType = ret ∧ c.maxLocals = 15 ∧ s.vm.findClass R_law = some m.cls ∧ (∀ w ∈ lw_tbl, w.before #[Value.ref b] s = true) ∧ va_X b L xs s s.heap ∧ b < s.heap.size ∧ meth.locks = false ∧ (Jvm.Cond.and given_1 narrow_1).before #[Value.ref b] s = true
/-! ===== BEGIN words of one list among another's, by their places ===== -/
theorem goodIn_r {big : List Cond} (ws : List Cond) (ps : List Nat) (hp : ws = ps.filterMap (fun i => big[i]?)) (h : ws.all goodWord = true) : GoodIn big ws := by
  intro w hw
  have h1 := List.all_eq_true.mp h w hw
  rw [hp] at hw
  obtain ⟨i, -, hi⟩ := List.mem_filterMap.mp hw
  have hm : w ∈ big := by first | exact List.mem_of_getElem? hi | exact List.getElem?_mem hi
  exact ⟨hm, good_of_word h1⟩
theorem goodIn_app {big a b : List Cond} (ha : GoodIn big a) (hb : GoodIn big b) : GoodIn big (a ++ b) := fun w h => (List.mem_append.mp h).elim (ha w) (hb w)
theorem goodIn_ca {big a b : List Cond} {c : Cond} (ha : GoodIn big (c :: a)) (hb : GoodIn big b) : GoodIn big (c :: (a ++ b)) := fun w h => (List.mem_cons.mp h).elim (fun e => ha w (List.mem_cons.mpr (Or.inl e))) (fun h => (List.mem_append.mp h).elim (fun h => ha w (List.mem_cons.mpr (Or.inr h))) (hb w))
theorem goodIn_sub {big ws : List Cond} (hm : ∀ w ∈ ws, w ∈ big) (h : ws.all goodWord = true) : GoodIn big ws := fun w hw => ⟨hm w hw, good_of_word (List.all_eq_true.mp h w hw)⟩
/-! ===== END ===== -/

/-! ===== BEGIN exceptions that leave a method, and their catching by the caller (launches without stack traces) ===== -/
section VXA
/-! The laws vx_back, vx_callV, vx_callS, vx_callSW, vx_throw0, vx_throwS follow proofs of the library, with one case more: JvmDerived/Free/Laws.lean (Back.of_free), Shelf42/LK1.lean (callV, callS), Shelf/KitTraced.lean (throwNew0V, throwNewS). -/
/-- where a method has thrown q: the class by its name, the cell, what was written, the world -/
def vx_T (XC : String → State → State → Prop) (st : State) (q : Addr) (t : State) (mc ms : Nat) (free : Addr → Prop) : Prop :=
  ∃ (E : String) (ce : Cell) (L : List Loc), XC E st t ∧ t.heap[q]? = some ce ∧ ce.vm = .none ∧ st.vm.findClass E = some ce.cls ∧ st.WarmedH t.vm ∧ st.sameButNew ({ t with vm := st.vm } : State) L mc ms ∧ ∀ z ∈ L, free z.base
def vx_Q (Qc : Array Value → State → Outcome → State → Prop) (XC : String → State → State → Prop) (mc ms : Nat) (free : Addr → Prop) : Array Value → State → Outcome → State → Prop := fun a st o t =>
  (Qc a st o t ∧ ∃ L, FrameEnd st o t L mc ms ∧ ∀ q ∈ L, free q.base) ∨ ∃ q, o = .threw q ∧ vx_T XC st q t mc ms free
/-- a callee that returns or throws -/
def vx_Met (l : Launch) (y : MethodName) (ws : List Cond) (rm : Room) (Pc : Array Value → State → Prop) (Qc : Array Value → State → Outcome → State → Prop) (XC : String → State → State → Prop) (mc ms : Nat) (free : Addr → Prop) : Prop :=
  MetFree l y (headSpec ws rm) Pc (fun _ _ _ _ _ => True) (vx_Q Qc XC mc ms free)
def vx_Post (XC : String → State → State → Prop) (mc ms : Nat) (free : Addr → Prop) : Pt → Array Value → Addr → Pt → Prop := fun A a q B =>
  ∃ (g : JFrame) (mk : MethodId) (t : State) (L : List Loc) (E : String) (ce : Cell), B.U.heap = t.heap ∧ B.U.vm = t.vm ∧ XC E (A.U.calling g mk a) t ∧ t.heap[q]? = some ce ∧ ce.vm = .none ∧ A.U.vm.findClass E = some ce.cls ∧ B.locs = A.locs ++ L ∧ (∀ z ∈ L, free z.base) ∧ B.cells = A.cells + mc ∧ B.slots = A.slots + ms
def vx_Back (l : Launch) (R : Room) (p : Program) (e : Env) (below : List Frame) (s : State) (sargs : Array Value) (y : MethodName) (len W9 : Nat)
    (Pre : Pt → Array Value → Prop) (Post : Pt → Array Value → Option Value → Pt → Prop) (PostX : Pt → Array Value → Addr → Pt → Prop) : Prop :=
  ∀ (m : MethodId) (meth : Method) (c : Code) (A : Pt) (g : JFrame) (ig : Instr) (mk : MethodId) (a : Array Value),
    Stand p l e R s m sargs below meth c A.U A.locs A.cells A.slots → g.method = m → g.locals.size = c.maxLocals → decode c.code g.pc = .ok (ig, len) →
    2 * g.monitorRoom + (g.stack.map fun v => v.category).sum ≤ W9 → A.U.methodNamed? y = some mk → Pre A a →
    (∃ (v : Option Value) (B : Pt), Stand p l e R s m sargs below meth c B.U B.locs B.cells B.slots ∧ Post A a v B ∧
      Steps p.tables e below (doInvoke e (A.U.setTop g) [] mk a).1 (B.U.setTop { g with pc := g.pc + len, stack := v.toList ++ g.stack })) ∨
    (∃ (q : Addr) (B : Pt), Stand p l e R s m sargs below meth c B.U B.locs B.cells B.slots ∧ PostX A a q B ∧
      Steps p.tables e below (doInvoke e (A.U.setTop g) [] mk a).1 ((B.U.setTop g).pushFrame (.throwing q)))
section Payer
variable {l : Launch} {R : Room} {p : Program} {e : Env} {below : List Frame} {s : State} {sargs : Array Value} {y : MethodName} {len W9 : Nat}
theorem vx_back {ws : List Cond} {rm : Room} {Pc : Array Value → State → Prop} {Qc : Array Value → State → Outcome → State → Prop} {XC : String → State → State → Prop} {mc ms : Nat} {free : Addr → Prop} {bytes : ByteArray} {maxL : Nat} {ret : Option FieldType}
    (hM : vx_Met l y ws rm Pc Qc XC mc ms free) (hblind : FrameBlind Pc) (hrc : rm.cells = mc) (hrs : rm.slots = ms)
    (hframes : rm.frames + 1 ≤ R.frames) (hlocals : W9 + (maxL + 11) + rm.locals ≤ R.locals)
    (hws : ∀ w ∈ ws, ∀ a' U, s.WarmedH U.vm → w.before a' U = true) (hcode : Cond.code y bytes maxL ret ∈ ws) (hinit : ∀ a' U, s.WarmedH U.vm → (Cond.initialized y.cls).before a' U = true) :
    vx_Back l R p e below s sargs y len W9 (PreOf R mc ms Pc) (PostOf Qc mc ms free) (vx_Post XC mc ms free) := by
  intro m meth c A g ig mk a X hg hsize hdg hW hn hp
  have h1 : (headSpec ws rm).pre.before a A.U = true := atoms_intro fun w hw => hws w hw _ _ X.warmed
  have h2 : (Cond.code y bytes maxL ret).before a A.U = true := hws _ hcode _ _ X.warmed
  have h3 : (Cond.initialized y.cls).before a A.U = true := hinit _ _ X.warmed
  have h4 : A.cells + (headSpec ws rm).room.cells ≤ R.cells := by rw [show (headSpec ws rm).room.cells = mc from hrc]; exact hp.1
  have h5 : A.slots + (headSpec ws rm).room.slots ≤ R.slots := by rw [show (headSpec ws rm).room.slots = ms from hrs]; exact hp.2.1
  have hPc : Pc a (A.U.calling g mk a) := hblind _ _ _ _ hp.2.2
  obtain ⟨U, Ls, c0, s0⟩ := A
  dsimp only [Pt.U, Pt.locs, Pt.cells, Pt.slots] at h1 h2 h3 h4 h5 X hn hPc ⊢
  obtain ⟨methY, cY, hmY, hcY, -, hlY, -, -, -, -⟩ := Cond.code_spec hn h2
  obtain ⟨kY, hkY, -⟩ := className_of_methodNamed hn
  have hinitY : kY.init = .initialized := Cond.initialized_spec (findClass_of_methodNamed hn) hkY h3
  have h : At U g.method c below := by rw [hg]; exact X.here
  have hlocals9 : W9 + (maxL + 11) + (headSpec ws rm).room.locals ≤ R.locals := hlocals
  have happ : (headSpec ws rm).appliesLoose y e.platform (U.calling g mk a) = true :=
    Spec.appliesLoose_calling (g := g) h hdg hn hkY hinitY
      (X.room_calling (g := g) (R' := (headSpec ws rm).room) hsize hmY hcY hframes (by rw [hlY]; omega) h4 h5) h1
  obtain ⟨mid, hmid⟩ := h.above
  have hfr : (U.setTop g).frames = (.java g :: mid) ++ below := by rw [State.frames_setTop' g h.top, hmid]; rfl
  obtain ⟨o, s₂, hsteps, -, hend, hq⟩ := Steps.callFree hM p X.admits X.cas X.clock (acts := []) hfr happ hPc trivial
  have hq' : vx_Q Qc XC mc ms free a (U.calling g mk a) o s₂ := hq
  rw [State.frames_setTop' g h.top] at hend
  obtain ⟨g₀, hg0⟩ := Option.isSome_iff_exists.mp h.top
  obtain ⟨r, hr⟩ := State.topJava?_eq_some.mp hg0
  have hr' : (({ U with heap := s₂.heap, slotsUsed := s₂.slotsUsed } : State).setVm s₂.vm).frames = .java g₀ :: r := hr
  rcases hq' with ⟨hqc, L, hfe, hL⟩ | ⟨q, rfl, E, ce, L, hx, hce, hcv, hcl, hW₂, hsm, hL⟩
  · obtain ⟨⟨v, rfl⟩, hW₂, e2, q2, q3, q4, q5, q6⟩ := id hfe
    have e3 : s₂ = ({ (U.calling g mk a).setFrames s₂.frames with heap := s₂.heap, slotsUsed := s₂.slotsUsed } : State).setVm s₂.vm := by
      have : s₂ = ({ s₂ with vm := (U.calling g mk a).vm } : State).setVm s₂.vm := rfl
      rw [e2] at this
      exact this
    obtain ⟨c₂, i₂, len₂, hc₂, hd₂, hf₂⟩ := hend
    have hW' : U.WarmedH s₂.vm := hW₂
    have hcc : c₂ = c := by
      have h1 : s₂.code? g.method = U.code? g.method := by
        rw [State.code?_eq, State.code?_eq, hW'.alike.method?]
      exact Option.some.inj (hc₂.symm.trans (h1.trans h.code))
    subst hcc
    have hlen : len₂ = len := by rw [hdg] at hd₂; cases hd₂; rfl
    subst hlen
    have hs₂ : s₂ = (({ U with heap := s₂.heap, slotsUsed := s₂.slotsUsed } : State).setVm s₂.vm).setTop { g with pc := g.pc + len₂, stack := v.toList ++ g.stack } := by
      refine e3.trans ?_
      rw [hf₂, State.calling_eq h.top, State.setFrames_setFrames, State.setTop_of_frames _ hr', hr]
      rfl
    have hsame : U.sameButNew ({ U with heap := s₂.heap, slotsUsed := s₂.slotsUsed } : State) L mc ms := by
      refine ⟨?_, q2, q3, q4, q5, q6⟩
      obtain ⟨t, ht, -⟩ := State.frames_cons hr
      show ({ U with heap := s₂.heap, slotsUsed := s₂.slotsUsed } : State) = { U.setFrames U.frames with heap := s₂.heap, slotsUsed := s₂.slotsUsed }
      rw [State.setFrames_self ht]
    subst hg
    refine Or.inl ⟨v, ⟨(({ U with heap := s₂.heap, slotsUsed := s₂.slotsUsed } : State).setVm s₂.vm), Ls ++ L, c0 + mc, s0 + ms⟩,
      ⟨X.admits, X.cas, X.clock, X.frames, X.room, X.hears, X.method, X.code, (X.here.setHeapUsed s₂.heap s₂.slotsUsed).setVm hW'.alike, X.tail, State.WarmedH.trans X.warmed hW', X.limits, X.bytes, X.same.trans (hsame.setVm s.vm)⟩,
      ⟨g, mk, s₂, L, rfl, rfl, hqc, rfl, hL, rfl, rfl⟩, ?_⟩
    show Steps p.tables e below _ ((({ U with heap := s₂.heap, slotsUsed := s₂.slotsUsed } : State).setVm s₂.vm).setTop { g with pc := g.pc + len₂, stack := v.toList ++ g.stack })
    rw [← hs₂]
    exact hsteps
  · obtain ⟨e2, q2, q3, q4, q5, q6⟩ := id hsm
    have e3 : s₂ = ({ (U.calling g mk a).setFrames s₂.frames with heap := s₂.heap, slotsUsed := s₂.slotsUsed } : State).setVm s₂.vm := by
      have : s₂ = ({ s₂ with vm := (U.calling g mk a).vm } : State).setVm s₂.vm := rfl
      rw [e2] at this
      exact this
    have hf₂ : s₂.frames = .throwing q :: .java g :: U.frames.tail := hend
    have hW' : U.WarmedH s₂.vm := hW₂
    have hs₂ : s₂ = ((({ U with heap := s₂.heap, slotsUsed := s₂.slotsUsed } : State).setVm s₂.vm).setTop g).pushFrame (.throwing q) := by
      refine e3.trans ?_
      rw [hf₂, State.calling_eq h.top, State.setFrames_setFrames, State.pushFrame, State.frames_setTop _ hr', State.setTop_of_frames _ hr', State.setFrames_setFrames, hr]
      rfl
    have hsame : U.sameButNew ({ U with heap := s₂.heap, slotsUsed := s₂.slotsUsed } : State) L mc ms := by
      refine ⟨?_, q2, q3, q4, q5, q6⟩
      obtain ⟨t, ht, -⟩ := State.frames_cons hr
      show ({ U with heap := s₂.heap, slotsUsed := s₂.slotsUsed } : State) = { U.setFrames U.frames with heap := s₂.heap, slotsUsed := s₂.slotsUsed }
      rw [State.setFrames_self ht]
    subst hg
    refine Or.inr ⟨q, ⟨(({ U with heap := s₂.heap, slotsUsed := s₂.slotsUsed } : State).setVm s₂.vm), Ls ++ L, c0 + mc, s0 + ms⟩,
      ⟨X.admits, X.cas, X.clock, X.frames, X.room, X.hears, X.method, X.code, (X.here.setHeapUsed s₂.heap s₂.slotsUsed).setVm hW'.alike, X.tail, State.WarmedH.trans X.warmed hW', X.limits, X.bytes, X.same.trans (hsame.setVm s.vm)⟩,
      ⟨g, mk, s₂, L, E, ce, rfl, rfl, hx, hce, hcv, hcl, rfl, hL, rfl, rfl⟩, ?_⟩
    show Steps p.tables e below _ (((({ U with heap := s₂.heap, slotsUsed := s₂.slotsUsed } : State).setVm s₂.vm).setTop g).pushFrame (.throwing q))
    rw [← hs₂]
    exact hsteps
end Payer
section Calls
variable {p : Program} {l : Launch} {e : Env} {R : Room} {s : State} {m : MethodId} {args : Array Value} {below : List Frame} {meth : Method} {c : Code} {T : State} {locs : List Loc} {cells slots : Nat}
theorem vx_callV (X : Stand p l e R s m args below meth c T locs cells slots) (hexec : p.tables.exec = Jvm.exec) {own C : String} {index : Nat} {y : MethodName} {bytes : ByteArray} {maxL : Nat} {ret : Option FieldType}
    (hown : s.vm.findClass own = some m.cls) (hlink : (Cond.methodLink own index y).before args s = true) (hinst : (Cond.instanceMethod y).before args s = true) (hsel : (Cond.selects C y y).before args s = true)
    (hcode : (Cond.code y bytes maxL ret).before args s = true) (hy : y.cls ≠ "java/lang/invoke/MethodHandle" ∧ y.cls ≠ "java/lang/invoke/VarHandle")
    {W9 : Nat} {Pre : Pt → Array Value → Prop} {Post : Pt → Array Value → Option Value → Pt → Prop} {PostX : Pt → Array Value → Addr → Pt → Prop} (hK : vx_Back l R p e below s args y 3 W9 Pre Post PostX)
    {b : Addr} {cellB : Cell} (hcell : T.heap[b]? = some cellB) (hobj : cellB.vm.isStatics = false) (hcls : s.vm.findClass C = some cellB.cls)
    {g : JFrame} (hg : g.method = m) (hsize : g.locals.size = c.maxLocals) {argsL rest : List Value} (hlen : ∀ sig, parseMethodDescriptor y.desc = some sig → argsL.length = sig.parameters.length)
    (hstack : g.stack = argsL.reverse ++ .ref b :: rest) (hW : 2 * g.monitorRoom + (rest.map fun v => v.category).sum ≤ W9) (hdg : decode c.code g.pc = .ok (.invokevirtual index, 3))
    (hpre : ∀ vm₁, s.WarmedH vm₁ → Pre ⟨T.setVm vm₁, locs, cells, slots⟩ (Value.ref b :: argsL).toArray) :
    (∃ (v : Option Value) (vm₁ : Vm) (B : Pt), s.WarmedH vm₁ ∧ Stand p l e R s m args below meth c B.U B.locs B.cells B.slots ∧ Post ⟨T.setVm vm₁, locs, cells, slots⟩ (Value.ref b :: argsL).toArray v B ∧
      ∀ target, Steps p.tables e below (B.U.setTop { g with pc := g.pc + 3, stack := v.toList ++ rest }) target → Steps p.tables e below (T.setTop g) target) ∨
    (∃ (q : Addr) (vm₁ : Vm) (B : Pt), s.WarmedH vm₁ ∧ Stand p l e R s m args below meth c B.U B.locs B.cells B.slots ∧ PostX ⟨T.setVm vm₁, locs, cells, slots⟩ (Value.ref b :: argsL).toArray q B ∧
      Steps p.tables e below (T.setTop g) ((B.U.setTop { g with stack := rest }).pushFrame (.throwing q))) := by
  obtain ⟨mk, methM, hnamed, hmethM, hstM, habM⟩ := Cond.instanceMethod_spec hinst
  obtain ⟨methM', cM, hmethM', -, -, -, -, -, -, hsigM⟩ := Cond.code_spec hnamed hcode
  cases hmethM.symm.trans hmethM'
  obtain ⟨c2, r2, m2, q1, q2, q3, q4, kP, hkP, hkPi⟩ := Cond.selects_spec hsel
  cases hcls.symm.trans q1
  cases (State.methodFound?_of_named hnamed hy).symm.trans q2
  cases hnamed.symm.trans q3
  have hselP : selectMethod e.platform s.vm cellB.cls mk = .method mk := by rw [Launch.admits_selectMethod X.admits]; exact q4
  obtain ⟨vm₁, X₁, hstep₁⟩ := X.invokevirtual hexec hown hlink hnamed hmethM hstM hkP hkPi hy (a := b) (cell := cellB) hcell
    (fun z h => by rw [h] at hobj; cases hobj) hselP hmethM habM hkP hkPi (g := g) hg (argsL := argsL) (rest := rest) (hlen _ hsigM) hstack hdg
  rcases hK m meth c ⟨T.setVm vm₁, locs, cells, slots⟩ { g with stack := rest } (.invokevirtual index) mk (Value.ref b :: argsL).toArray X₁ hg hsize hdg hW (X₁.named hnamed) (hpre vm₁ X₁.warmed) with ⟨v, B, X', hpost, hsteps⟩ | ⟨q, B, X', hpost, hsteps⟩
  · exact Or.inl ⟨v, vm₁, B, X₁.warmed, X', hpost, fun target h => hstep₁ _ fun acts => by rw [doInvoke_state]; exact hsteps.trans h⟩
  · exact Or.inr ⟨q, vm₁, B, X₁.warmed, X', hpost, hstep₁ _ fun acts => by rw [doInvoke_state]; exact hsteps⟩
theorem vx_callS (X : Stand p l e R s m args below meth c T locs cells slots) (hexec : p.tables.exec = Jvm.exec) {own : String} {index : Nat} {y : MethodName} {bytes : ByteArray} {maxL : Nat} {ret : Option FieldType}
    (hown : s.vm.findClass own = some m.cls) (hlink : (Cond.methodLink own index y).before args s = true) (hstat : (Cond.static y).before args s = true) (hinit : (Cond.initialized y.cls).before args s = true)
    (hcode : (Cond.code y bytes maxL ret).before args s = true) (hy : y.cls ≠ "java/lang/invoke/MethodHandle" ∧ y.cls ≠ "java/lang/invoke/VarHandle")
    {W9 : Nat} {Pre : Pt → Array Value → Prop} {Post : Pt → Array Value → Option Value → Pt → Prop} {PostX : Pt → Array Value → Addr → Pt → Prop} (hK : vx_Back l R p e below s args y 3 W9 Pre Post PostX)
    {g : JFrame} (hg : g.method = m) (hsize : g.locals.size = c.maxLocals) {argsL rest : List Value} (hlen : ∀ sig, parseMethodDescriptor y.desc = some sig → argsL.length = sig.parameters.length)
    (hstack : g.stack = argsL.reverse ++ rest) (hW : 2 * g.monitorRoom + (rest.map fun v => v.category).sum ≤ W9) (hdg : decode c.code g.pc = .ok (.invokestatic index, 3))
    (hpre : ∀ vm₁, s.WarmedH vm₁ → Pre ⟨T.setVm vm₁, locs, cells, slots⟩ argsL.toArray) :
    (∃ (v : Option Value) (vm₁ : Vm) (B : Pt), s.WarmedH vm₁ ∧ Stand p l e R s m args below meth c B.U B.locs B.cells B.slots ∧ Post ⟨T.setVm vm₁, locs, cells, slots⟩ argsL.toArray v B ∧
      ∀ target, Steps p.tables e below (B.U.setTop { g with pc := g.pc + 3, stack := v.toList ++ rest }) target → Steps p.tables e below (T.setTop g) target) ∨
    (∃ (q : Addr) (vm₁ : Vm) (B : Pt), s.WarmedH vm₁ ∧ Stand p l e R s m args below meth c B.U B.locs B.cells B.slots ∧ PostX ⟨T.setVm vm₁, locs, cells, slots⟩ argsL.toArray q B ∧
      Steps p.tables e below (T.setTop g) ((B.U.setTop { g with stack := rest }).pushFrame (.throwing q))) := by
  obtain ⟨mk, hnamed⟩ := Cond.code_named hcode
  obtain ⟨methM, cM, hmethM, -, -, -, -, -, -, hsigM⟩ := Cond.code_spec hnamed hcode
  have hstatic : methM.isStatic = true := Cond.static_spec hnamed hmethM hstat
  obtain ⟨kP, hkP, -⟩ := className_of_methodNamed hnamed
  have hinitP : kP.init = .initialized := Cond.initialized_spec (findClass_of_methodNamed hnamed) hkP hinit
  obtain ⟨vm₁, X₁, hstep₁⟩ := X.invokestatic hexec hown hlink hnamed hmethM hstatic hkP hinitP hy (g := g) hg (argsL := argsL) (rest := rest) (hlen _ hsigM) hstack hdg
  rcases hK m meth c ⟨T.setVm vm₁, locs, cells, slots⟩ { g with stack := rest } (.invokestatic index) mk argsL.toArray X₁ hg hsize hdg hW (X₁.named hnamed) (hpre vm₁ X₁.warmed) with ⟨v, B, X', hpost, hsteps⟩ | ⟨q, B, X', hpost, hsteps⟩
  · exact Or.inl ⟨v, vm₁, B, X₁.warmed, X', hpost, fun target h => hstep₁ _ fun acts => by rw [doInvoke_state]; exact hsteps.trans h⟩
  · exact Or.inr ⟨q, vm₁, B, X₁.warmed, X', hpost, hstep₁ _ fun acts => by rw [doInvoke_state]; exact hsteps⟩
end Calls
theorem vx_cls {s : State} {T : State} {vm₁ : Vm} {E : String} {k : ClassId} (hW : s.WarmedH vm₁) (h : (T.setVm vm₁).vm.findClass E = some k) : s.vm.findClass E = some k := by
  have h1 : vm₁.findClass E = some k := h
  rw [hW.alike.findClass] at h1
  exact h1
/-- the method's frame g, with q thrown over it -/
def vx_W (p : Program) (l : Launch) (e : Env) (R : Room) (s : State) (m : MethodId) (args : Array Value) (below : List Frame) (meth : Method) (c : Code) (H : Heap) (locs : List Loc) (cells slots : Nat) (Q : State → Prop) (g : JFrame) (q : Addr) : Prop :=
  ∀ T : State, T.heap = H → Stand p l e R s m args below meth c T locs cells slots → ∃ t, Steps p.tables e below ((T.setTop g).pushFrame (.throwing q)) t ∧ Q t
def vx_Run (p : Program) (l : Launch) (e : Env) (R : Room) (s : State) (m : MethodId) (args : Array Value) (below : List Frame) (meth : Method) (c : Code) (H : Heap) (locs : List Loc) (cells slots mc ms : Nat) (g : JFrame) (rest : List Value) (Qa : State → Outcome → State → Prop) (XC : String → State → State → Prop) (free : Addr → Prop) : Prop :=
  ∀ T : State, T.heap = H → Stand p l e R s m args below meth c T locs cells slots →
    (∃ (v : Option Value) (st₀ t T' : State) (L : List Loc), st₀.heap = H ∧ Stand p l e R s m args below meth c T' (locs ++ L) (cells + mc) (slots + ms) ∧ (∀ q ∈ L, free q.base) ∧ T'.heap = t.heap ∧ T'.vm = t.vm ∧ Qa st₀ (.returned v) t ∧
      Goes p e below T g T' { g with pc := g.pc + 3, stack := v.toList ++ rest }) ∨
    (∃ (q : Addr) (st₀ t T' : State) (L : List Loc) (E : String) (ce : Cell), st₀.heap = H ∧ Stand p l e R s m args below meth c T' (locs ++ L) (cells + mc) (slots + ms) ∧ (∀ z ∈ L, free z.base) ∧ T'.heap = t.heap ∧ T'.vm = t.vm ∧ XC E st₀ t ∧ t.heap[q]? = some ce ∧ ce.vm = .none ∧ s.vm.findClass E = some ce.cls ∧
      Steps p.tables e below (T.setTop g) ((T'.setTop { g with stack := rest }).pushFrame (.throwing q)))
def vx_X {S : Type} (px : S → Prop) (B : String → S → State → Prop) (A : Nat → Prop) : String → State → State → Prop := fun E st t => ∃ u : S, px u ∧ B E u t ∧ va_F A st t
section Runs
variable {p : Program} {l : Launch} {e : Env} {R : Room} {s : State} {m : MethodId} {args : Array Value} {below : List Frame} {meth : Method} {c : Code} {H : Heap} {locs : List Loc} {cells slots : Nat}
variable {y : MethodName} {bytes cc : ByteArray} {maxL nL mc ms n index : Nat} {ret : Option FieldType} {ws : List Cond} {rm : Room} {Pc : Array Value → State → Prop} {Qc : Array Value → State → Outcome → State → Prop} {XC : String → State → State → Prop} {free : Addr → Prop} {Ts : List Cond} {own C : String} {b : Addr} {As rest : List Value} {g : JFrame}
theorem vx_callBack (cb : CallB R s args own index y bytes maxL ret ws rm mc ms n) (hM : vx_Met l y ws rm Pc Qc XC mc ms free) (hbl : FrameBlind Pc) : vx_Back l R p e below s args y 3 8 (PreOf R mc ms Pc) (PostOf Qc mc ms free) (vx_Post XC mc ms free) := by
  obtain ⟨hrc, hrs, hfr, hlo, hws, hcw, -, hini, -⟩ := cb
  exact vx_back (bytes := bytes) (maxL := maxL) (ret := ret) hM hbl hrc hrs hfr hlo hws hcw (fun a' U hW => word_at hW (Or.inl (by first | rfl | simp [Cond.onTables, Cond.keeps, Cond.steady])) hini)
theorem vx_runV (S : CallFix p m c cc nL s args Ts own) (hM : vx_Met l y ws rm Pc Qc XC mc ms free) (cw : CallW R s args own C index y bytes maxL ret ws rm mc ms n) (hp : PreV s H C b Pc As)
    (hg : g.method = m) (hn : As.length = n) (hsize : g.locals.size = nL) (hstack : g.stack = As.reverse ++ .ref b :: rest) (hW : 2 * g.monitorRoom + (rest.map fun v => v.category).sum ≤ 8) (hdg : decode cc g.pc = .ok (.invokevirtual index, 3)) (hf : cells + mc ≤ R.cells ∧ slots + ms ≤ R.slots) :
    vx_Run p l e R s m args below meth c H locs cells slots mc ms g rest (Qc (Value.ref b :: As).toArray) XC free := by
  have hK : vx_Back l R p e below s args y 3 8 (PreOf R mc ms Pc) (PostOf Qc mc ms free) (vx_Post XC mc ms free) := vx_callBack cw.1 hM hp.1
  obtain ⟨⟨-, -, -, -, -, -, hcode, -, hy, hlen, hl⟩, hin, hse⟩ := cw
  obtain ⟨hx, hb, hml, ho, -⟩ := S
  obtain ⟨-, ⟨cellB, hcB, hoB, hclB⟩, hPc⟩ := hp
  intro T hT X
  rcases vx_callV X hx (C := C) (bytes := bytes) (maxL := maxL) (ret := ret) ho hl hin hse hcode hy hK (by rw [hT]; exact hcB) hoB hclB hg (hsize.trans hml.symm) (argsL := As) (rest := rest) (fun sig h => hn.trans (hlen sig h)) hstack hW (by rw [hb]; exact hdg)
    (fun vm₁ hW₁ => ⟨hf.1, hf.2, hPc (T.setVm vm₁) hT hW₁⟩) with ⟨v, vm₁, ⟨U', l2, c2, s2⟩, hW₁, X', ⟨g', mk, t, L, e1, e2, hq, h1, hL, h2, h3⟩, st⟩ | ⟨q, vm₁, ⟨U', l2, c2, s2⟩, hW₁, X', ⟨g', mk, t, L, E, ce, e1, e2, hq, hce, hcv, hcl, h1, hL, h2, h3⟩, st⟩
  · dsimp only [Pt.U, Pt.locs, Pt.cells, Pt.slots] at X' e1 e2 h1 h2 h3 st
    subst h1; subst h2; subst h3
    exact Or.inl ⟨v, (T.setVm vm₁).calling g' mk (Value.ref b :: As).toArray, t, U', L, hT, X', hL, e1, e2, hq, st⟩
  · dsimp only [Pt.U, Pt.locs, Pt.cells, Pt.slots] at X' e1 e2 h1 h2 h3 st hcl
    subst h1; subst h2; subst h3
    exact Or.inr ⟨q, (T.setVm vm₁).calling g' mk (Value.ref b :: As).toArray, t, U', L, E, ce, hT, X', hL, e1, e2, hq, hce, hcv, vx_cls hW₁ hcl, st⟩
theorem vx_runS (S : CallFix p m c cc nL s args Ts own) (hM : vx_Met l y ws rm Pc Qc XC mc ms free) (cw : CallB R s args own index y bytes maxL ret ws rm mc ms n ∧ (Cond.static y).before args s = true) (hp : PreS s H Pc As)
    (hg : g.method = m) (hn : As.length = n) (hsize : g.locals.size = nL) (hstack : g.stack = As.reverse ++ rest) (hW : 2 * g.monitorRoom + (rest.map fun v => v.category).sum ≤ 8) (hdg : decode cc g.pc = .ok (.invokestatic index, 3)) (hf : cells + mc ≤ R.cells ∧ slots + ms ≤ R.slots) :
    vx_Run p l e R s m args below meth c H locs cells slots mc ms g rest (Qc As.toArray) XC free := by
  have hK : vx_Back l R p e below s args y 3 8 (PreOf R mc ms Pc) (PostOf Qc mc ms free) (vx_Post XC mc ms free) := vx_callBack cw.1 hM hp.1
  obtain ⟨⟨-, -, -, -, -, -, hcode, hini, hy, hlen, hl⟩, hstt⟩ := cw
  obtain ⟨hx, hb, hml, ho, -⟩ := S
  intro T hT X
  rcases vx_callS X hx (bytes := bytes) (maxL := maxL) (ret := ret) ho hl hstt hini hcode hy hK hg (hsize.trans hml.symm) (argsL := As) (rest := rest) (fun sig h => hn.trans (hlen sig h)) hstack hW (by rw [hb]; exact hdg)
    (fun vm₁ hW₁ => ⟨hf.1, hf.2, hp.2 (T.setVm vm₁) hT hW₁⟩) with ⟨v, vm₁, ⟨U', l2, c2, s2⟩, hW₁, X', ⟨g', mk, t, L, e1, e2, hq, h1, hL, h2, h3⟩, st⟩ | ⟨q, vm₁, ⟨U', l2, c2, s2⟩, hW₁, X', ⟨g', mk, t, L, E, ce, e1, e2, hq, hce, hcv, hcl, h1, hL, h2, h3⟩, st⟩
  · dsimp only [Pt.U, Pt.locs, Pt.cells, Pt.slots] at X' e1 e2 h1 h2 h3 st
    subst h1; subst h2; subst h3
    exact Or.inl ⟨v, (T.setVm vm₁).calling g' mk As.toArray, t, U', L, hT, X', hL, e1, e2, hq, st⟩
  · dsimp only [Pt.U, Pt.locs, Pt.cells, Pt.slots] at X' e1 e2 h1 h2 h3 st hcl
    subst h1; subst h2; subst h3
    exact Or.inr ⟨q, (T.setVm vm₁).calling g' mk As.toArray, t, U', L, E, ce, hT, X', hL, e1, e2, hq, hce, hcv, vx_cls hW₁ hcl, st⟩
end Runs
section Rows
variable {p : Program} {l : Launch} {e : Env} {R : Room} {s : State} {m : MethodId} {args : Array Value} {below : List Frame} {meth : Method} {c : Code} {H : Heap} {locs : List Loc} {cells slots : Nat} {Q : State → Prop}
variable {mc ms : Nat} {free : Addr → Prop} {A0 A1 : Nat → Prop} {H0 : Heap} {a : Array Value} {pc : Nat} {ls : Array Slot} {st0 rest : List Value}
theorem vx_keep {st₀ t T' : State} {L : List Loc} (h0 : st₀.heap = H) (e1 : T'.heap = t.heap) (hS : va_S A0 H0 H locs) (hA : ∀ q, q < H.size → A1 q → A0 q) (hf : ∀ q, free q → A0 q) (hL : ∀ q ∈ L, free q.base) (hF : va_F A1 st₀ t) :
    H.size ≤ T'.heap.size ∧ (∀ q : Nat, q < H.size → ¬ A1 q → T'.heap[q]? = H[q]?) ∧ va_S A0 H0 T'.heap (locs ++ L) := by
  obtain ⟨hz, hk⟩ := hF
  rw [h0] at hz hk
  exact ⟨by rw [e1]; exact hz, fun q h1 h2 => by rw [e1]; exact hk q h1 h2,
    ⟨Nat.le_trans hS.1 (by rw [e1]; exact hz), fun q h1 h2 => by rw [e1, hk q (Nat.lt_of_lt_of_le h1 hS.1) (fun z => h2 (hA q (Nat.lt_of_lt_of_le h1 hS.1) z))]; exact hS.2.1 q h1 h2, fun q hq => by
      rcases List.mem_append.mp hq with h | h
      · exact hS.2.2 q h
      · exact hf _ (hL q h)⟩⟩
theorem vx_calli {S SX : Type} {post : Int32 → S → Prop} {px : SX → Prop} {B : S → State → Prop} {BX : String → SX → State → Prop} {AX : Nat → Prop} (hr : vx_Run p l e R s m args below meth c H locs cells slots mc ms (F0 m pc ls st0) rest (va_Qi post B A1 a) (vx_X px BX AX) free) (hS : va_S A0 H0 H locs) (hA : ∀ q, q < H.size → A1 q → A0 q) (hf : ∀ q, free q → A0 q) (hAX : ∀ q, q < H.size → AX q → A0 q)
    (kx : ∀ (E : String) (ce : Cell) (q9 : Addr) (u : SX) (t : State) (H1 : Heap) (locs1 : List Loc), t.heap = H1 → s.vm.Alike t.vm → px u → BX E u t → H.size ≤ H1.size → (∀ q : Nat, q < H.size → ¬ AX q → H1[q]? = H[q]?) → va_S A0 H0 H1 locs1 → H1[q9]? = some ce → ce.vm = .none → s.vm.findClass E = some ce.cls → vx_W p l e R s m args below meth c H1 locs1 (cells + mc) (slots + ms) Q (F0 m pc ls rest) q9)
    (kk : ∀ (r : Int32) (u : S) (t : State) (H1 : Heap) (locs1 : List Loc), t.heap = H1 → s.vm.Alike t.vm → post r u → B u t → H.size ≤ H1.size → (∀ q : Nat, q < H.size → ¬ A1 q → H1[q]? = H[q]?) → va_S A0 H0 H1 locs1 → W p l e R s m args below meth c H1 locs1 (cells + mc) (slots + ms) Q (F0 m (pc + 3) ls (.int r :: rest))) : W p l e R s m args below meth c H locs cells slots Q (F0 m pc ls st0) := by
  intro T hT X
  rcases hr T hT X with ⟨v, st₀, t, T', L, h0, X', hL, e1, e2, ⟨⟨r, u, hv, hp, hb⟩, hF⟩, st⟩ | ⟨q, st₀, t, T', L, E, ce, h0, X', hL, e1, e2, ⟨u, hp, hb, hF⟩, hce, hcv, hcl, st⟩
  · cases hv
    obtain ⟨k1, k2, k3⟩ := vx_keep h0 e1 hS hA hf hL hF
    obtain ⟨t2, a1, b1⟩ := kk r u t T'.heap (locs ++ L) e1.symm (by rw [← e2]; exact X'.warmed.alike) hp hb k1 k2 k3 T' rfl X'
    exact ⟨t2, st t2 a1, b1⟩
  · obtain ⟨k1, k2, k3⟩ := vx_keep h0 e1 hS hAX hf hL hF
    obtain ⟨t2, a1, b1⟩ := kx E ce q u t T'.heap (locs ++ L) e1.symm (by rw [← e2]; exact X'.warmed.alike) hp hb k1 k2 k3 (by rw [e1]; exact hce) hcv hcl T' rfl X'
    exact ⟨t2, st.trans a1, b1⟩
theorem vx_calll {S SX : Type} {post : Int64 → S → Prop} {px : SX → Prop} {B : S → State → Prop} {BX : String → SX → State → Prop} {AX : Nat → Prop} (hr : vx_Run p l e R s m args below meth c H locs cells slots mc ms (F0 m pc ls st0) rest (va_Ql post B A1 a) (vx_X px BX AX) free) (hS : va_S A0 H0 H locs) (hA : ∀ q, q < H.size → A1 q → A0 q) (hf : ∀ q, free q → A0 q) (hAX : ∀ q, q < H.size → AX q → A0 q)
    (kx : ∀ (E : String) (ce : Cell) (q9 : Addr) (u : SX) (t : State) (H1 : Heap) (locs1 : List Loc), t.heap = H1 → s.vm.Alike t.vm → px u → BX E u t → H.size ≤ H1.size → (∀ q : Nat, q < H.size → ¬ AX q → H1[q]? = H[q]?) → va_S A0 H0 H1 locs1 → H1[q9]? = some ce → ce.vm = .none → s.vm.findClass E = some ce.cls → vx_W p l e R s m args below meth c H1 locs1 (cells + mc) (slots + ms) Q (F0 m pc ls rest) q9)
    (kk : ∀ (r : Int64) (u : S) (t : State) (H1 : Heap) (locs1 : List Loc), t.heap = H1 → s.vm.Alike t.vm → post r u → B u t → H.size ≤ H1.size → (∀ q : Nat, q < H.size → ¬ A1 q → H1[q]? = H[q]?) → va_S A0 H0 H1 locs1 → W p l e R s m args below meth c H1 locs1 (cells + mc) (slots + ms) Q (F0 m (pc + 3) ls (.long r :: rest))) : W p l e R s m args below meth c H locs cells slots Q (F0 m pc ls st0) := by
  intro T hT X
  rcases hr T hT X with ⟨v, st₀, t, T', L, h0, X', hL, e1, e2, ⟨⟨r, u, hv, hp, hb⟩, hF⟩, st⟩ | ⟨q, st₀, t, T', L, E, ce, h0, X', hL, e1, e2, ⟨u, hp, hb, hF⟩, hce, hcv, hcl, st⟩
  · cases hv
    obtain ⟨k1, k2, k3⟩ := vx_keep h0 e1 hS hA hf hL hF
    obtain ⟨t2, a1, b1⟩ := kk r u t T'.heap (locs ++ L) e1.symm (by rw [← e2]; exact X'.warmed.alike) hp hb k1 k2 k3 T' rfl X'
    exact ⟨t2, st t2 a1, b1⟩
  · obtain ⟨k1, k2, k3⟩ := vx_keep h0 e1 hS hAX hf hL hF
    obtain ⟨t2, a1, b1⟩ := kx E ce q u t T'.heap (locs ++ L) e1.symm (by rw [← e2]; exact X'.warmed.alike) hp hb k1 k2 k3 (by rw [e1]; exact hce) hcv hcl T' rfl X'
    exact ⟨t2, st.trans a1, b1⟩
theorem vx_callf {S SX : Type} {post : UInt32 → S → Prop} {px : SX → Prop} {B : S → State → Prop} {BX : String → SX → State → Prop} {AX : Nat → Prop} (hr : vx_Run p l e R s m args below meth c H locs cells slots mc ms (F0 m pc ls st0) rest (va_Qf post B A1 a) (vx_X px BX AX) free) (hS : va_S A0 H0 H locs) (hA : ∀ q, q < H.size → A1 q → A0 q) (hf : ∀ q, free q → A0 q) (hAX : ∀ q, q < H.size → AX q → A0 q)
    (kx : ∀ (E : String) (ce : Cell) (q9 : Addr) (u : SX) (t : State) (H1 : Heap) (locs1 : List Loc), t.heap = H1 → s.vm.Alike t.vm → px u → BX E u t → H.size ≤ H1.size → (∀ q : Nat, q < H.size → ¬ AX q → H1[q]? = H[q]?) → va_S A0 H0 H1 locs1 → H1[q9]? = some ce → ce.vm = .none → s.vm.findClass E = some ce.cls → vx_W p l e R s m args below meth c H1 locs1 (cells + mc) (slots + ms) Q (F0 m pc ls rest) q9)
    (kk : ∀ (r : UInt32) (u : S) (t : State) (H1 : Heap) (locs1 : List Loc), t.heap = H1 → s.vm.Alike t.vm → post r u → B u t → H.size ≤ H1.size → (∀ q : Nat, q < H.size → ¬ A1 q → H1[q]? = H[q]?) → va_S A0 H0 H1 locs1 → W p l e R s m args below meth c H1 locs1 (cells + mc) (slots + ms) Q (F0 m (pc + 3) ls (.float r :: rest))) : W p l e R s m args below meth c H locs cells slots Q (F0 m pc ls st0) := by
  intro T hT X
  rcases hr T hT X with ⟨v, st₀, t, T', L, h0, X', hL, e1, e2, ⟨⟨r, u, hv, hp, hb⟩, hF⟩, st⟩ | ⟨q, st₀, t, T', L, E, ce, h0, X', hL, e1, e2, ⟨u, hp, hb, hF⟩, hce, hcv, hcl, st⟩
  · cases hv
    obtain ⟨k1, k2, k3⟩ := vx_keep h0 e1 hS hA hf hL hF
    obtain ⟨t2, a1, b1⟩ := kk r u t T'.heap (locs ++ L) e1.symm (by rw [← e2]; exact X'.warmed.alike) hp hb k1 k2 k3 T' rfl X'
    exact ⟨t2, st t2 a1, b1⟩
  · obtain ⟨k1, k2, k3⟩ := vx_keep h0 e1 hS hAX hf hL hF
    obtain ⟨t2, a1, b1⟩ := kx E ce q u t T'.heap (locs ++ L) e1.symm (by rw [← e2]; exact X'.warmed.alike) hp hb k1 k2 k3 (by rw [e1]; exact hce) hcv hcl T' rfl X'
    exact ⟨t2, st.trans a1, b1⟩
theorem vx_calld {S SX : Type} {post : UInt64 → S → Prop} {px : SX → Prop} {B : S → State → Prop} {BX : String → SX → State → Prop} {AX : Nat → Prop} (hr : vx_Run p l e R s m args below meth c H locs cells slots mc ms (F0 m pc ls st0) rest (va_Qd post B A1 a) (vx_X px BX AX) free) (hS : va_S A0 H0 H locs) (hA : ∀ q, q < H.size → A1 q → A0 q) (hf : ∀ q, free q → A0 q) (hAX : ∀ q, q < H.size → AX q → A0 q)
    (kx : ∀ (E : String) (ce : Cell) (q9 : Addr) (u : SX) (t : State) (H1 : Heap) (locs1 : List Loc), t.heap = H1 → s.vm.Alike t.vm → px u → BX E u t → H.size ≤ H1.size → (∀ q : Nat, q < H.size → ¬ AX q → H1[q]? = H[q]?) → va_S A0 H0 H1 locs1 → H1[q9]? = some ce → ce.vm = .none → s.vm.findClass E = some ce.cls → vx_W p l e R s m args below meth c H1 locs1 (cells + mc) (slots + ms) Q (F0 m pc ls rest) q9)
    (kk : ∀ (r : UInt64) (u : S) (t : State) (H1 : Heap) (locs1 : List Loc), t.heap = H1 → s.vm.Alike t.vm → post r u → B u t → H.size ≤ H1.size → (∀ q : Nat, q < H.size → ¬ A1 q → H1[q]? = H[q]?) → va_S A0 H0 H1 locs1 → W p l e R s m args below meth c H1 locs1 (cells + mc) (slots + ms) Q (F0 m (pc + 3) ls (.double r :: rest))) : W p l e R s m args below meth c H locs cells slots Q (F0 m pc ls st0) := by
  intro T hT X
  rcases hr T hT X with ⟨v, st₀, t, T', L, h0, X', hL, e1, e2, ⟨⟨r, u, hv, hp, hb⟩, hF⟩, st⟩ | ⟨q, st₀, t, T', L, E, ce, h0, X', hL, e1, e2, ⟨u, hp, hb, hF⟩, hce, hcv, hcl, st⟩
  · cases hv
    obtain ⟨k1, k2, k3⟩ := vx_keep h0 e1 hS hA hf hL hF
    obtain ⟨t2, a1, b1⟩ := kk r u t T'.heap (locs ++ L) e1.symm (by rw [← e2]; exact X'.warmed.alike) hp hb k1 k2 k3 T' rfl X'
    exact ⟨t2, st t2 a1, b1⟩
  · obtain ⟨k1, k2, k3⟩ := vx_keep h0 e1 hS hAX hf hL hF
    obtain ⟨t2, a1, b1⟩ := kx E ce q u t T'.heap (locs ++ L) e1.symm (by rw [← e2]; exact X'.warmed.alike) hp hb k1 k2 k3 (by rw [e1]; exact hce) hcv hcl T' rfl X'
    exact ⟨t2, st.trans a1, b1⟩
theorem vx_callv {S SX : Type} {post : S → Prop} {px : SX → Prop} {B : S → State → Prop} {BX : String → SX → State → Prop} {AX : Nat → Prop} (hr : vx_Run p l e R s m args below meth c H locs cells slots mc ms (F0 m pc ls st0) rest (va_Qv post B A1 a) (vx_X px BX AX) free) (hS : va_S A0 H0 H locs) (hA : ∀ q, q < H.size → A1 q → A0 q) (hf : ∀ q, free q → A0 q) (hAX : ∀ q, q < H.size → AX q → A0 q)
    (kx : ∀ (E : String) (ce : Cell) (q9 : Addr) (u : SX) (t : State) (H1 : Heap) (locs1 : List Loc), t.heap = H1 → s.vm.Alike t.vm → px u → BX E u t → H.size ≤ H1.size → (∀ q : Nat, q < H.size → ¬ AX q → H1[q]? = H[q]?) → va_S A0 H0 H1 locs1 → H1[q9]? = some ce → ce.vm = .none → s.vm.findClass E = some ce.cls → vx_W p l e R s m args below meth c H1 locs1 (cells + mc) (slots + ms) Q (F0 m pc ls rest) q9)
    (kk : ∀ (u : S) (t : State) (H1 : Heap) (locs1 : List Loc), t.heap = H1 → s.vm.Alike t.vm → post u → B u t → H.size ≤ H1.size → (∀ q : Nat, q < H.size → ¬ A1 q → H1[q]? = H[q]?) → va_S A0 H0 H1 locs1 → W p l e R s m args below meth c H1 locs1 (cells + mc) (slots + ms) Q (F0 m (pc + 3) ls (rest))) : W p l e R s m args below meth c H locs cells slots Q (F0 m pc ls st0) := by
  intro T hT X
  rcases hr T hT X with ⟨v, st₀, t, T', L, h0, X', hL, e1, e2, ⟨⟨u, hv, hp, hb⟩, hF⟩, st⟩ | ⟨q, st₀, t, T', L, E, ce, h0, X', hL, e1, e2, ⟨u, hp, hb, hF⟩, hce, hcv, hcl, st⟩
  · cases hv
    obtain ⟨k1, k2, k3⟩ := vx_keep h0 e1 hS hA hf hL hF
    obtain ⟨t2, a1, b1⟩ := kk u t T'.heap (locs ++ L) e1.symm (by rw [← e2]; exact X'.warmed.alike) hp hb k1 k2 k3 T' rfl X'
    exact ⟨t2, st t2 a1, b1⟩
  · obtain ⟨k1, k2, k3⟩ := vx_keep h0 e1 hS hAX hf hL hF
    obtain ⟨t2, a1, b1⟩ := kx E ce q u t T'.heap (locs ++ L) e1.symm (by rw [← e2]; exact X'.warmed.alike) hp hb k1 k2 k3 (by rw [e1]; exact hce) hcv hcl T' rfl X'
    exact ⟨t2, st.trans a1, b1⟩
/-- caught by the row x of this method's table; the rows ahead don't take it -/
theorem vx_catch {own name : String} {E : String} {ce : Cell} {q : Addr} (hown : s.vm.findClass own = some m.cls) (pre : List ExceptionTableEntry) (x : ExceptionTableEntry) (suf : List ExceptionTableEntry) (hsplit : c.exceptionTable.toList = pre ++ x :: suf)
    (hpass : ∀ z ∈ pre, covers z pc = false ∨ (z.catchType ≠ 0 ∧ ∃ nm : String, (Cond.classLink own z.catchType nm).before args s = true ∧ va_Nc E nm s)) (hx : covers x pc = true) (h0 : x.catchType ≠ 0)
    (hlink : (Cond.classLink own x.catchType name).before args s = true) (hcast : (Cond.castable E name).before args s = true) (hcell : H[q]? = some ce) (hv : ce.vm = .none) (hcl : s.vm.findClass E = some ce.cls)
    (kk : W p l e R s m args below meth c H locs cells slots Q (F0 m x.handlerPc ls [.ref q])) : vx_W p l e R s m args below meth c H locs cells slots Q (F0 m pc ls rest) q := by
  intro T hT X
  have hpl : e.platform.magicAccessors = ({} : Platform).magicAccessors := by rw [X.admits.platform]
  obtain ⟨c3, c4, hc3, hc4, hasg⟩ := Cond.castable_spec hcast
  cases Option.some.inj (hc3.symm.trans hcl)
  obtain ⟨c5, hc5, hcl5⟩ := Cond.classLink_spec hown hlink e.platform hpl
  cases Option.some.inj (hc4.symm.trans hc5)
  obtain ⟨vm', X', st⟩ := X.thenCaughtThrough q (g := F0 m pc ls rest) rfl (Steps.refl _) (by rw [hT]; exact hcell) (by rw [hv]; rfl) (by obtain ⟨k9, h9, -⟩ := Vm.findClass_spec hcl; exact ⟨k9, h9⟩) pre x suf hsplit
    (fun z hz => by
      rcases hpass z hz with h | ⟨hz0, nm, hl1, hn1⟩
      · exact Or.inl h
      · obtain ⟨c6, hc6, hcl6⟩ := Cond.classLink_spec hown hl1 e.platform hpl
        obtain ⟨a8, b8, h1, h2, h3⟩ := hn1
        cases Option.some.inj (h1.symm.trans hcl)
        cases Option.some.inj (h2.symm.trans hc6)
        exact Or.inr ⟨hz0, _, hcl6, h3⟩) hx (Or.inr ⟨h0, c4, hcl5, hasg⟩)
  obtain ⟨t, a1, b1⟩ := kk (T.setVm vm') hT X'
  exact ⟨t, st.trans a1, b1⟩
end Rows
section Ends
variable {p : Program} {l : Launch} {e : Env} {R : Room} {s : State} {m : MethodId} {args : Array Value} {below : List Frame} {meth : Method} {c : Code} {H : Heap} {locs : List Loc} {cells slots : Nat} {Q : State → Prop}
variable {mc ms : Nat} {free : Addr → Prop} {A0 A1 : Nat → Prop} {H0 : Heap} {a : Array Value} {ls : Array Slot} {st0 rest : List Value}
variable {Qc : Array Value → State → Outcome → State → Prop} {XC : String → State → State → Prop}
/-- what a body that may throw owes at its end -/
def vx_MQ (below : List Frame) (Qc : Array Value → State → Outcome → State → Prop) (XC : String → State → State → Prop) (a : Array Value) (s : State) (mc ms : Nat) (free : Addr → Prop) : State → Prop := fun t =>
  ∃ o, t.status = .running ∧ Ended t below o ∧ vx_Q Qc XC mc ms free a s o t
theorem vx_ret {g : JFrame} {mc ms : Nat} (k : W p l e R s m args below meth c H locs cells slots (MQ below Qc args s mc ms free) g) : W p l e R s m args below meth c H locs cells slots (vx_MQ below Qc XC args s mc ms free) g := by
  intro T hT X
  obtain ⟨t, a1, o, b1, b2, b3, b4⟩ := k T hT X
  exact ⟨t, a1, o, b1, b2, Or.inl ⟨b3, b4⟩⟩
/-- not caught here: it goes on to the caller -/
theorem vx_widen {g : JFrame} {q : Addr} {k n : Nat} (h1 : cells ≤ k) (h2 : slots ≤ n) (kk : vx_W p l e R s m args below meth c H locs k n Q g q) : vx_W p l e R s m args below meth c H locs cells slots Q g q := fun T hT X => kk T hT (stand_widen X h1 h2)
theorem vx_out {pc : Nat} {E : String} {ce : Cell} {q : Addr} {mc ms : Nat} (hout : ∀ x ∈ c.exceptionTable.toList, covers x pc = false) (hlocks : meth.locks = false) (hcell : H[q]? = some ce) (hv : ce.vm = .none) (hcl : s.vm.findClass E = some ce.cls)
    (hx : ∀ t : State, t.heap = H → s.vm.Alike t.vm → XC E s t) (hf : ∀ z ∈ locs, free z.base) (hc : cells ≤ mc) (hs : slots ≤ ms) :
    vx_W p l e R s m args below meth c H locs cells slots (vx_MQ below Qc XC args s mc ms free) (F0 m pc ls rest) q := by
  intro T hT X
  obtain ⟨st1, hrun, hend, hW, hsm⟩ := X.leaveThrown q (g := F0 m pc ls rest) rfl rfl rfl hout hlocks
  have hcell9 : (T.setFrames (.throwing q :: below)).heap[q]? = some ce := by
    show T.heap[q]? = some ce
    rw [hT]; exact hcell
  exact ⟨_, st1, .threw q, hrun, hend, Or.inr ⟨q, rfl, E, ce, locs, hx _ hT hW.alike, hcell9, hv, hcl, hW, hsm.mono hc hs, hf⟩⟩
theorem vx_frame {U : State} {k n : Nat} (h : s.sameButNew ({ U with vm := s.vm } : State) locs k n) : s.heap.size ≤ U.heap.size ∧ ∀ q : Nat, q < s.heap.size → (∀ z ∈ locs, z.base ≠ q) → U.heap[q]? = s.heap[q]? := by
  obtain ⟨-, h2, -, -, -, h6⟩ := h
  refine ⟨h2, fun q hq hz => ?_⟩
  obtain ⟨c9, e1, e2, e3, e4⟩ := h6 q _ (Array.getElem?_eq_getElem hq)
  have hs : c9.slots = (s.heap[q]).slots := Array.ext_getElem? fun i => e4 i fun hm => hz _ hm rfl
  have h9 : c9 = s.heap[q] := by
    rw [hs] at e2
    exact e2
  have e5 : U.heap[q]? = some c9 := e1
  rw [e5, h9, Array.getElem?_eq_getElem hq]
/-- the words of a throw but the four that speak of the heap -/
def vx_no (w : Cond) : Bool := decide (w ≠ .isRef (.static Bundle.tN "UNASSIGNED_STACK" Bundle.steD)) && decide (w ≠ .isRef (.static Bundle.tN "SUPPRESSED_SENTINEL" Bundle.listD)) && decide (w ≠ .laysStatic Bundle.tN "UNASSIGNED_STACK" Bundle.steD) && decide (w ≠ .laysStatic Bundle.tN "SUPPRESSED_SENTINEL" Bundle.listD)
def vx_at0 (own : String) (ic : Nat) (X : String) (names : List String) : List Cond := (Bundle.ownAtoms0 own ic X names).filter vx_no
def vx_atS (own : String) (ic : Nat) (X : String) (names : List String) : List Cond := (Bundle.ownAtoms own ic X names).filter vx_no
/-- a word that the tables alone decide, or a good one -/
def vx_ot (w : Cond) : Bool := w.onTables || goodWord w
theorem vx_ot_at {args a' : Array Value} {s U : State} {w : Cond} (hW : s.WarmedH U.vm) (hvm : s.vm = U.vm) (hg : vx_ot w = true) (h : w.before args s = true) : w.before a' U = true := by
  simp only [vx_ot, Bool.or_eq_true] at hg
  rcases hg with hg | hg
  · exact va_tabs hg hvm h
  · exact word_at hW (good_of_word hg) h
/-- a list's words: the good ones out of the method's own list, the others by premises of their own -/
theorem vx_hat {args : Array Value} {s : State} {L B : List Cond} (h1 : ∀ w ∈ L.filter goodWord, w.before args s = true) (h2 : ∀ w ∈ L.filter (fun w => !goodWord w), w ∈ B) (h3 : ∀ w ∈ B, w.before args s = true) : ∀ w ∈ L, w.before args s = true := by
  intro w hw
  by_cases g : goodWord w = true
  · exact h1 w (List.mem_filter.mpr ⟨hw, g⟩)
  · refine h3 w (h2 w (List.mem_filter.mpr ⟨hw, ?_⟩))
    show (!goodWord w) = true
    cases hgw : goodWord w
    · rfl
    · exact absurd hgw g
theorem vx_c {args : Array Value} {s : State} {w : Cond} {B : List Cond} (h : w.before args s = true) (t : ∀ w ∈ B, w.before args s = true) : ∀ w' ∈ w :: B, w'.before args s = true := fun w' h' => (List.mem_cons.mp h').elim (fun e => by rw [e]; exact h) (t w')
theorem vx_n {args : Array Value} {s : State} : ∀ w ∈ ([] : List Cond), w.before args s = true := fun _ h => nomatch h
theorem vx_own {args : Array Value} {s : State} {L : List Cond} (h1 : ∀ w ∈ L.filter vx_no, w.before args s = true)
    (hU : (Cond.isRef (.static Bundle.tN "UNASSIGNED_STACK" Bundle.steD)).before args s = true) (hN : (Cond.isRef (.static Bundle.tN "SUPPRESSED_SENTINEL" Bundle.listD)).before args s = true)
    (lU : (Cond.laysStatic Bundle.tN "UNASSIGNED_STACK" Bundle.steD).before args s = true) (lN : (Cond.laysStatic Bundle.tN "SUPPRESSED_SENTINEL" Bundle.listD).before args s = true) : ∀ w ∈ L, w.before args s = true := by
  intro w hw
  by_cases e1 : w = .isRef (.static Bundle.tN "UNASSIGNED_STACK" Bundle.steD)
  · rw [e1]; exact hU
  · by_cases e2 : w = .isRef (.static Bundle.tN "SUPPRESSED_SENTINEL" Bundle.listD)
    · rw [e2]; exact hN
    · by_cases e3 : w = .laysStatic Bundle.tN "UNASSIGNED_STACK" Bundle.steD
      · rw [e3]; exact lU
      · by_cases e4 : w = .laysStatic Bundle.tN "SUPPRESSED_SENTINEL" Bundle.listD
        · rw [e4]; exact lN
        · exact h1 w (List.mem_filter.mpr ⟨hw, by unfold vx_no; rw [decide_eq_true e1, decide_eq_true e2, decide_eq_true e3, decide_eq_true e4]; rfl⟩)
/-- where a static field lies, its class's statics cell in H -/
def vx_L (C n d : String) (A : Nat → Prop) (U : State) (H : Heap) : Prop := ∃ (c : ClassId) (k : Class) (i : Nat) (f : Field) (a : Nat) (cell : Cell), U.vm.findClass C = some c ∧ U.fieldFound? C n d = some (c, k, i, f) ∧ f.isStatic = true ∧ k.statics = some a ∧ H[a]? = some cell ∧ cell.vm.isStatics = true ∧ cell.cls = c ∧ f.slot < cell.slots.size ∧ k.staticTypes[f.slot]? = some f.type ∧ ¬ A a
theorem vx_L.moved {C n d : String} {A : Nat → Prop} {u U : State} {H : Heap} (hvm : u.vm.Alike U.vm) (h : vx_L C n d A u H) : vx_L C n d A U H := by
  obtain ⟨c, k, i, f, a, cell, h1, h2, h3, h4, h5, h6, h7, h8, h9, h10⟩ := h
  obtain ⟨k', hi', he⟩ := State.fieldFound?_setVm hvm h2
  exact ⟨c, k', i, f, a, cell, by rw [hvm.findClass]; exact h1, hi', h3, by rw [he]; exact h4, h5, h6, h7, h8, by rw [he]; exact h9, h10⟩
theorem vx_L.kept {C n d : String} {A : Nat → Prop} {U : State} {H H1 : Heap} (h : vx_L C n d A U H) (hq : ∀ a : Nat, a < H.size → ¬ A a → H1[a]? = H[a]?) : vx_L C n d A U H1 := by
  obtain ⟨c, k, i, f, a, cell, h1, h2, h3, h4, h5, h6, h7, h8, h9, h10⟩ := h
  exact ⟨c, k, i, f, a, cell, h1, h2, h3, h4, by rw [hq a (Array.getElem?_eq_some_iff.mp h5).1 h10]; exact h5, h6, h7, h8, h9, h10⟩
theorem vx_L.narrow {C n d : String} {A B : Nat → Prop} {U : State} {H : Heap} (h : vx_L C n d A U H) (hAB : ∀ q, B q → A q) : vx_L C n d B U H := by
  obtain ⟨c, k, i, f, a, cell, h1, h2, h3, h4, h5, h6, h7, h8, h9, h10⟩ := h
  exact ⟨c, k, i, f, a, cell, h1, h2, h3, h4, h5, h6, h7, h8, h9, fun z => h10 (hAB _ z)⟩
theorem vx_L.word {C n d : String} {A : Nat → Prop} {s : State} {args : Array Value} (h : vx_L C n d A s s.heap) : (Cond.laysStatic C n d).before args s = true := by
  obtain ⟨c, k, i, f, a, cell, h1, h2, h3, h4, h5, h6, h7, h8, h9, -⟩ := h
  show (Cond.laysStatic C n d).holds args s none s [] = true
  exact Cond.laysStatic_of h1 h2 h3 h4 h5 h6 h7 h8 h9
/-- .. and what it holds: null or some reference -/
def vx_Zq (C n d : String) (A : Nat → Prop) (U : State) (H : Heap) : Prop := va_Zq C n d A U H ∧ vx_L C n d A U H
theorem vx_Zq.moved {C n d : String} {A : Nat → Prop} {u U : State} {H : Heap} (hvm : u.vm.Alike U.vm) (h : vx_Zq C n d A u H) : vx_Zq C n d A U H := ⟨va_Zq.moved hvm h.1, vx_L.moved hvm h.2⟩
theorem vx_Zq.kept {C n d : String} {A : Nat → Prop} {U : State} {H H1 : Heap} (h : vx_Zq C n d A U H) (hq : ∀ a : Nat, a < H.size → ¬ A a → H1[a]? = H[a]?) : vx_Zq C n d A U H1 := ⟨va_Zq.kept h.1 hq, vx_L.kept h.2 hq⟩
theorem vx_Zq.narrow {C n d : String} {A B : Nat → Prop} {U : State} {H : Heap} (h : vx_Zq C n d A U H) (hAB : ∀ q, B q → A q) : vx_Zq C n d B U H := ⟨va_Zq.narrow h.1 hAB, vx_L.narrow h.2 hAB⟩
theorem vx_Zqof {args : Array Value} {s : State} {C n d : String} {A : Nat → Prop} (hl : (Cond.laysStatic C n d).before args s = true) (hini : (Cond.initialized C).before args s = true) (h : (Cond.isRef (.static C n d)).before args s = true) (hA : ∀ a : Nat, a < s.heap.size → ¬ A a) : vx_Zq C n d A s s.heap := by
  refine ⟨va_Zqof hl hini h hA, ?_⟩
  obtain ⟨c, k, i, f, a, cell, h1, h2, h3, h4, h5, h6, h7, h8, h9⟩ := Cond.laysStatic_spec hl
  exact ⟨c, k, i, f, a, cell, h1, h2, h3, h4, h5, h6, h7, h8, h9, hA a (Array.getElem?_eq_some_iff.mp h5).1⟩
theorem vx_isRef {C n d : String} {v : Value} {A : Nat → Prop} {s : State} {args : Array Value} (h : va_Z C n d v A s s.heap) (hv : v.isRef = true) : (Cond.isRef (.static C n d)).before args s = true := by
  obtain ⟨cf, kf, fi, f, a, cell, h1, h2, h3, h4, h5, h6, h7, -⟩ := h
  have he : (Term.static C n d).eval args s none [] s = some v := by
    simp [Term.eval, State.fieldNamed?, h1, h2, h4, h5, h6, h7]
  simp only [Cond.before, Cond.holds, Cond.value, he]
  cases v <;> simp_all [Value.isRef]
theorem vx_isRefq {C n d : String} {A : Nat → Prop} {s : State} {args : Array Value} (h : va_Zq C n d A s s.heap) : (Cond.isRef (.static C n d)).before args s = true := by
  rcases h with h | ⟨t, h⟩
  · exact vx_isRef h rfl
  · exact vx_isRef h rfl
/-- the same frame, seen from here: as if the method were called anew in this heap -/
theorem vx_rebase {T : State} (X : Stand p l e R s m args below meth c T locs cells slots) {R' : Room} (hf : R'.frames ≤ R.frames) (hl : R'.locals ≤ R.locals) (hc : cells + R'.cells ≤ R.cells) (hs : slots + R'.slots ≤ R.slots) :
    Stand p l e R' ((T.setVm s.vm).setFrames (.invoking m args :: below)) m args below meth c T [] 0 0 := by
  have htop : (T.setVm s.vm).topJava?.isSome := X.here.top
  have hF : ((T.setVm s.vm).setFrames (.invoking m args :: below)).frames = .invoking m args :: below := State.frames_setFrames _ (State.cur_lt_of_top htop)
  obtain ⟨g₀, hg0⟩ := Option.isSome_iff_exists.mp htop
  obtain ⟨r, hr⟩ := State.topJava?_eq_some.mp hg0
  have hl9 : e.platform.stackLimits (T.setVm s.vm).me = e.platform.stackLimits s.me := X.limits
  have hb9 : (T.setVm s.vm).me.stackBytes = s.me.stackBytes := X.bytes
  refine ⟨X.admits, X.cas, X.clock, hF, ?_, X.hears, X.method, X.code, X.here, X.tail, X.warmed, ?_, ?_, ?_⟩
  · have h := X.room
    have hU : ((T.setVm s.vm).setFrames (.invoking m args :: below)).localsInUse = s.localsInUse := by
      rw [State.localsInUse_invoking hF (meth := meth) (c := c) X.method X.code, State.localsInUse_invoking X.frames X.method X.code]
    simp only [State.hasRoom, Bool.and_eq_true, decide_eq_true_eq] at h ⊢
    obtain ⟨⟨⟨⟨h1, h2, h3, h4, h5, h6⟩, h7⟩, h8⟩, h9⟩ := h
    rw [X.frames, List.length_cons] at h2 h3
    have q1 := X.heapSize
    have q2 := X.used
    simp only [hF, hU, List.length_cons, State.stackLimits_setFrames, State.stackBytes_setFrames, hl9, hb9]
    refine ⟨⟨⟨⟨by omega, by omega, by omega, by omega, by omega, h6⟩, ?_⟩, ?_⟩, X.book⟩
    · show T.heap.size + R'.cells ≤ e.platform.maxCells
      omega
    · show T.slotsUsed + R'.slots ≤ e.platform.maxSlots
      omega
  · rw [State.stackLimits_setFrames]; rfl
  · rw [State.stackBytes_setFrames]; rfl
  · refine ⟨?_, Nat.le_refl _, Nat.le_refl _, ?_, ?_, fun a c9 h9 => ⟨c9, h9, rfl, rfl, fun _ _ => rfl⟩⟩
    · obtain ⟨t, ht, -⟩ := State.frames_cons hr
      show T.setVm s.vm = { ((T.setVm s.vm).setFrames (.invoking m args :: below)).setFrames (T.setVm s.vm).frames with heap := T.heap, slotsUsed := T.slotsUsed }
      rw [State.setFrames_setFrames, State.setFrames_self ht]
      rfl
    · show T.slotsUsed = T.slotsUsed + ((T.heap.toList.drop T.heap.size).map (·.slots.size)).sum
      rw [List.drop_eq_nil_of_le (Nat.le_of_eq Array.length_toList)]
      rfl
    · show ((T.heap.toList.drop T.heap.size).map (·.slots.size)).sum ≤ 0
      rw [List.drop_eq_nil_of_le (Nat.le_of_eq Array.length_toList)]
      exact Nat.le_refl _
/-- 'throw new E()': new; dup; invokespecial; athrow -/
theorem vx_throw0 {cc : ByteArray} {pc : Nat} (hexec : p.tables.exec = Jvm.exec) (hb : c.code = cc) (hl : l.stackTraces = false) {own cls : String} {names : List String} {ik ic mc ms : Nat} {A : Nat → Prop}
    (hown : s.vm.findClass own = some m.cls) (hcls : Bundle.fit cls = true) (hnames : ∀ n ∈ names, Bundle.fit n = true)
    (hk : (Cond.classLink own ik cls).before args s = true) (hini : (Cond.initialized cls).before args s = true) (hat : ∀ w ∈ vx_at0 own ic cls names, w.before args s = true)
    (hgood : ∀ w ∈ Cond.classLink own ik cls :: Cond.initialized cls :: vx_at0 own ic cls names, vx_ot w = true)
    (hU : vx_Zq Bundle.tN "UNASSIGNED_STACK" Bundle.steD A s s.heap) (hN : vx_Zq Bundle.tN "SUPPRESSED_SENTINEL" Bundle.listD A s s.heap) (hS : va_S A s.heap H locs) (hsize : ls.size = c.maxLocals)
    (d0 : decode cc pc = .ok (.new ik, 3)) (d3 : decode cc (pc + 3) = .ok (.dup, 1)) (d4 : decode cc (pc + 4) = .ok (.invokespecial ic, 3)) (d7 : decode cc (pc + 7) = .ok (.athrow, 1))
    (hout : ∀ x ∈ c.exceptionTable.toList, covers x (pc + 7) = false)
    (hRframes : names.length + 3 < R.frames) (hRlocals : (rest.map fun v => v.category).sum + (13 * (names.length + 1) + 42) ≤ R.locals) (hRcells : cells + 1 ≤ R.cells) (hRslots : slots + 6 ≤ R.slots) (hlocks : meth.locks = false)
    (hx : ∀ t : State, s.vm.Alike t.vm → H.size ≤ t.heap.size → (∀ q : Nat, q < H.size → t.heap[q]? = H[q]?) → XC cls s t)
    (hf : ∀ z ∈ locs, free z.base) (hc : cells + 1 ≤ mc) (hs : slots + 6 ≤ ms) :
    W p l e R s m args below meth c H locs cells slots (vx_MQ below Qc XC args s mc ms free) (F0 m pc ls rest) := by
  intro T hT X
  have htr : e.platform.stackTraces = false := (show e.platform.stackTraces = l.stackTraces by rw [X.admits.platform]).trans hl
  have Y := vx_rebase X (R' := { frames := R.frames, locals := R.locals, cells := 1, slots := 6 }) (Nat.le_refl _) (Nat.le_refl _) hRcells hRslots
  obtain ⟨s', hA⟩ : ∃ z, z = (T.setVm s.vm).setFrames (.invoking m args :: below) := ⟨_, rfl⟩
  rw [← hA] at Y
  have hvm : s'.vm = s.vm := by rw [hA]; rfl
  have hhp : s'.heap = H := by rw [hA]; exact hT
  have hW0 : s.WarmedH s'.vm := by rw [hvm]; exact State.WarmedH.refl s
  have hat' : ∀ w ∈ vx_at0 own ic cls names, w.before args s' = true := fun w hw => vx_ot_at hW0 hvm.symm (hgood w (List.mem_cons_of_mem _ (List.mem_cons_of_mem _ hw))) (hat w hw)
  have hk' : (Cond.classLink own ik cls).before args s' = true := vx_ot_at hW0 hvm.symm (hgood _ List.mem_cons_self) hk
  have hini' : (Cond.initialized cls).before args s' = true := vx_ot_at hW0 hvm.symm (hgood _ (List.mem_cons_of_mem _ List.mem_cons_self)) hini
  have hU' : vx_Zq Bundle.tN "UNASSIGNED_STACK" Bundle.steD A s' s'.heap := by rw [hhp]; exact vx_Zq.moved hW0.alike (hU.kept hS.2.1)
  have hN' : vx_Zq Bundle.tN "SUPPRESSED_SENTINEL" Bundle.listD A s' s'.heap := by rw [hhp]; exact vx_Zq.moved hW0.alike (hN.kept hS.2.1)
  have h : ∀ w ∈ Bundle.ownAtoms0 own ic cls names, w.before args s' = true := vx_own hat' (vx_isRefq hU'.1) (vx_isRefq hN'.1) hU'.2.word hN'.2.word
  have hown' : s'.vm.findClass own = some m.cls := by rw [hvm]; exact hown
  have hins : (Cond.instantiable cls 6).before args s' = true := h _ (by simp [Bundle.ownAtoms0])
  obtain ⟨vm₁, cX, kX, hfX, hkX, -, -, X₁, st1⟩ := Y.newCold hexec (own := own) (C := cls) (index := ik) (n := 6) hown' hk' hins hini'
    (g := F0 m pc ls rest) rfl (by rw [hb]; exact d0) (Nat.le_refl _) (Nat.le_refl _)
  generalize hT1 : (T.setVm vm₁).pushCell { cls := cX, slots := kX.instanceTypes.map defaultValue, vm := .none } = T1 at X₁ st1
  have hcat : (Value.ref T.heap.size).category = 1 := rfl
  have hcellA : T1.heap[T.heap.size]? = some (freshCell cX kX) := by rw [← hT1]; exact State.heap_pushCell_size _ _
  have d3' : decode c.code (pc + 3) = .ok (.dup, 1) := by rw [hb]; exact d3
  obtain ⟨U, hsteps, hrun, hend, hW, hsame, ce, hce, hO⟩ := X₁.ctorThrow0 hexec htr (own := own) (cls := cls) (names := names) (ic := ic) hown' hcls hnames h (fun x hx => nomatch hx) hfX hkX hcellA (by rw [hhp, hT]; exact Nat.le_refl _)
    (g := { method := m, pc := pc + 4, locals := ls, stack := .ref T.heap.size :: .ref T.heap.size :: rest, locked := none }) rfl hsize rfl rfl (rest := rest) rfl
    (by rw [hb]; exact d4) (by rw [hb]; exact d7) hout hRframes (by simp only [List.map_cons, List.sum_cons, hcat]; omega) hlocks
  obtain ⟨f1, f2⟩ := vx_frame hsame
  rw [hhp] at f1 f2
  have hWs : s.WarmedH U.vm := State.WarmedH.trans hW0 hW
  have hcl : s.vm.findClass cls = some ce.cls := by
    have h9 := hO.cls
    rw [hvm] at h9
    exact h9
  have hall : s.sameButNew ({ U with vm := s.vm } : State) locs mc ms := by
    subst hA
    obtain ⟨e1, e2⟩ := hsame
    rw [State.setFrames_setFrames] at e1
    have h2 : (T.setVm s.vm).sameButNew ({ U with vm := s.vm } : State) [] (0 + 1) (0 + 6) := ⟨e1, e2⟩
    have h3 := X.same.trans h2
    rw [List.append_nil] at h3
    exact h3.mono hc hs
  refine ⟨U, ?_, .threw T.heap.size, hrun, hend, Or.inr ⟨T.heap.size, rfl, cls, ce, locs, hx U hWs.alike f1 (fun q hq => f2 q hq (fun z hz => nomatch hz)), hce, hO.vm, hcl, hWs, hall, hf⟩⟩
  refine st1 _ ?_
  show Steps p.tables e below (T1.setTop { method := m, pc := pc + 3, locals := ls, stack := .ref T.heap.size :: rest, locked := none }) _
  jvm_step X₁.here [X₁.here.top, hexec, d3', Value.category]
  exact hsteps
/-- 'throw new E("text")': new; dup; ldc; invokespecial; athrow -/
theorem vx_throwS {cc : ByteArray} {pc : Nat} (hexec : p.tables.exec = Jvm.exec) (hb : c.code = cc) (hl : l.stackTraces = false) {own cls text : String} {names : List String} {ik is ic mc ms sa : Nat} {A : Nat → Prop}
    (hown : s.vm.findClass own = some m.cls) (hcls : Bundle.fit cls = true) (hnames : ∀ n ∈ names, Bundle.fit n = true)
    (hk : (Cond.classLink own ik cls).before args s = true) (hini : (Cond.initialized cls).before args s = true) (hstr : vk_R own is text sa s) (hat : ∀ w ∈ vx_atS own ic cls names, w.before args s = true)
    (hgood : ∀ w ∈ Cond.classLink own ik cls :: Cond.initialized cls :: vx_atS own ic cls names, vx_ot w = true)
    (hU : vx_Zq Bundle.tN "UNASSIGNED_STACK" Bundle.steD A s s.heap) (hN : vx_Zq Bundle.tN "SUPPRESSED_SENTINEL" Bundle.listD A s s.heap) (hS : va_S A s.heap H locs) (hsize : ls.size = c.maxLocals)
    (d0 : decode cc pc = .ok (.new ik, 3)) (d3 : decode cc (pc + 3) = .ok (.dup, 1)) (d4 : decode cc (pc + 4) = .ok (.ldc is, 2)) (d6 : decode cc (pc + 6) = .ok (.invokespecial ic, 3)) (d9 : decode cc (pc + 9) = .ok (.athrow, 1))
    (hout : ∀ x ∈ c.exceptionTable.toList, covers x (pc + 9) = false)
    (hRframes : names.length + 3 < R.frames) (hRlocals : (rest.map fun v => v.category).sum + (13 * (names.length + 1) + 43) ≤ R.locals) (hRcells : cells + 1 ≤ R.cells) (hRslots : slots + 6 ≤ R.slots) (hlocks : meth.locks = false)
    (hx : ∀ t : State, s.vm.Alike t.vm → H.size ≤ t.heap.size → (∀ q : Nat, q < H.size → t.heap[q]? = H[q]?) → XC cls s t)
    (hf : ∀ z ∈ locs, free z.base) (hc : cells + 1 ≤ mc) (hs : slots + 6 ≤ ms) :
    W p l e R s m args below meth c H locs cells slots (vx_MQ below Qc XC args s mc ms free) (F0 m pc ls rest) := by
  intro T hT X
  have htr : e.platform.stackTraces = false := (show e.platform.stackTraces = l.stackTraces by rw [X.admits.platform]).trans hl
  have Y := vx_rebase X (R' := { frames := R.frames, locals := R.locals, cells := 1, slots := 6 }) (Nat.le_refl _) (Nat.le_refl _) hRcells hRslots
  obtain ⟨s', hA⟩ : ∃ z, z = (T.setVm s.vm).setFrames (.invoking m args :: below) := ⟨_, rfl⟩
  rw [← hA] at Y
  have hvm : s'.vm = s.vm := by rw [hA]; rfl
  have hhp : s'.heap = H := by rw [hA]; exact hT
  have hW0 : s.WarmedH s'.vm := by rw [hvm]; exact State.WarmedH.refl s
  have hat' : ∀ w ∈ vx_atS own ic cls names, w.before args s' = true := fun w hw => vx_ot_at hW0 hvm.symm (hgood w (List.mem_cons_of_mem _ (List.mem_cons_of_mem _ hw))) (hat w hw)
  have hk' : (Cond.classLink own ik cls).before args s' = true := vx_ot_at hW0 hvm.symm (hgood _ List.mem_cons_self) hk
  have hini' : (Cond.initialized cls).before args s' = true := vx_ot_at hW0 hvm.symm (hgood _ (List.mem_cons_of_mem _ List.mem_cons_self)) hini
  have hU' : vx_Zq Bundle.tN "UNASSIGNED_STACK" Bundle.steD A s' s'.heap := by rw [hhp]; exact vx_Zq.moved hW0.alike (hU.kept hS.2.1)
  have hN' : vx_Zq Bundle.tN "SUPPRESSED_SENTINEL" Bundle.listD A s' s'.heap := by rw [hhp]; exact vx_Zq.moved hW0.alike (hN.kept hS.2.1)
  have h : ∀ w ∈ Bundle.ownAtoms own ic cls names, w.before args s' = true := vx_own hat' (vx_isRefq hU'.1) (vx_isRefq hN'.1) hU'.2.word hN'.2.word
  have hown' : s'.vm.findClass own = some m.cls := by rw [hvm]; exact hown
  have hins : (Cond.instantiable cls 6).before args s' = true := h _ (by simp [Bundle.ownAtoms])
  obtain ⟨vm₁, cX, kX, hfX, hkX, -, -, X₁, st1⟩ := Y.newCold hexec (own := own) (C := cls) (index := ik) (n := 6) hown' hk' hins hini'
    (g := F0 m pc ls rest) rfl (by rw [hb]; exact d0) (Nat.le_refl _) (Nat.le_refl _)
  generalize hT1 : (T.setVm vm₁).pushCell { cls := cX, slots := kX.instanceTypes.map defaultValue, vm := .none } = T1 at X₁ st1
  have hcat : (Value.ref T.heap.size).category = 1 := rfl
  have hcellA : T1.heap[T.heap.size]? = some (freshCell cX kX) := by rw [← hT1]; exact State.heap_pushCell_size _ _
  have d3' : decode c.code (pc + 3) = .ok (.dup, 1) := by rw [hb]; exact d3
  have d4' : decode c.code (pc + 4) = .ok (.ldc is, 2) := by rw [hb]; exact d4
  have hstr' : vk_R own is text sa s' := vk_R.warm hW0 hstr
  obtain ⟨U, hsteps, hrun, hend, hW, hsame, ce, hce, hO⟩ := X₁.ctorThrowS hexec htr (own := own) (cls := cls) (names := names) (ic := ic) hown' hcls hnames h (fun x hx => nomatch hx) hfX hkX hcellA (by rw [hhp, hT]; exact Nat.le_refl _) (msg := .ref sa) rfl
    (g := { method := m, pc := pc + 6, locals := ls, stack := .ref sa :: .ref T.heap.size :: .ref T.heap.size :: rest, locked := none }) rfl hsize rfl rfl (rest := rest) rfl
    (by rw [hb]; exact d6) (by rw [hb]; exact d9) hout hRframes (by simp only [List.map_cons, List.sum_cons, hcat]; omega) hlocks
  obtain ⟨f1, f2⟩ := vx_frame hsame
  rw [hhp] at f1 f2
  have hWs : s.WarmedH U.vm := State.WarmedH.trans hW0 hW
  have hcl : s.vm.findClass cls = some ce.cls := by
    have h9 := hO.cls
    rw [hvm] at h9
    exact h9
  have hall : s.sameButNew ({ U with vm := s.vm } : State) locs mc ms := by
    subst hA
    obtain ⟨e1, e2⟩ := hsame
    rw [State.setFrames_setFrames] at e1
    have h2 : (T.setVm s.vm).sameButNew ({ U with vm := s.vm } : State) [] (0 + 1) (0 + 6) := ⟨e1, e2⟩
    have h3 := X.same.trans h2
    rw [List.append_nil] at h3
    exact h3.mono hc hs
  refine ⟨U, ?_, .threw T.heap.size, hrun, hend, Or.inr ⟨T.heap.size, rfl, cls, ce, locs, hx U hWs.alike f1 (fun q hq => f2 q hq (fun z hz => nomatch hz)), hce, hO.vm, hcl, hWs, hall, hf⟩⟩
  refine st1 _ ?_
  show Steps p.tables e below (T1.setTop { method := m, pc := pc + 3, locals := ls, stack := .ref T.heap.size :: rest, locked := none }) _
  jvm_step X₁.here [X₁.here.top, hexec, d3', Value.category]
  exact X₁.ldcString hexec (own := own) (text := text) (index := is) (a := sa) hown' hstr'.1 hstr'.2
    (g := { method := m, pc := pc + 4, locals := ls, stack := .ref T.heap.size :: .ref T.heap.size :: rest, locked := none }) rfl d4' _ hsteps
/-- 'throw new E("text")', the text by a wide index -/
theorem vx_throwSW {cc : ByteArray} {pc : Nat} (hexec : p.tables.exec = Jvm.exec) (hb : c.code = cc) (hl : l.stackTraces = false) {own cls text : String} {names : List String} {ik is ic mc ms sa : Nat} {A : Nat → Prop}
    (hown : s.vm.findClass own = some m.cls) (hcls : Bundle.fit cls = true) (hnames : ∀ n ∈ names, Bundle.fit n = true)
    (hk : (Cond.classLink own ik cls).before args s = true) (hini : (Cond.initialized cls).before args s = true) (hstr : vk_R own is text sa s) (hat : ∀ w ∈ vx_atS own ic cls names, w.before args s = true)
    (hgood : ∀ w ∈ Cond.classLink own ik cls :: Cond.initialized cls :: vx_atS own ic cls names, vx_ot w = true)
    (hU : vx_Zq Bundle.tN "UNASSIGNED_STACK" Bundle.steD A s s.heap) (hN : vx_Zq Bundle.tN "SUPPRESSED_SENTINEL" Bundle.listD A s s.heap) (hS : va_S A s.heap H locs) (hsize : ls.size = c.maxLocals)
    (d0 : decode cc pc = .ok (.new ik, 3)) (d3 : decode cc (pc + 3) = .ok (.dup, 1)) (d4 : decode cc (pc + 4) = .ok (.ldc_w is, 3)) (d7 : decode cc (pc + 7) = .ok (.invokespecial ic, 3)) (d10 : decode cc (pc + 10) = .ok (.athrow, 1))
    (hout : ∀ x ∈ c.exceptionTable.toList, covers x (pc + 10) = false)
    (hRframes : names.length + 3 < R.frames) (hRlocals : (rest.map fun v => v.category).sum + (13 * (names.length + 1) + 43) ≤ R.locals) (hRcells : cells + 1 ≤ R.cells) (hRslots : slots + 6 ≤ R.slots) (hlocks : meth.locks = false)
    (hx : ∀ t : State, s.vm.Alike t.vm → H.size ≤ t.heap.size → (∀ q : Nat, q < H.size → t.heap[q]? = H[q]?) → XC cls s t)
    (hf : ∀ z ∈ locs, free z.base) (hc : cells + 1 ≤ mc) (hs : slots + 6 ≤ ms) :
    W p l e R s m args below meth c H locs cells slots (vx_MQ below Qc XC args s mc ms free) (F0 m pc ls rest) := by
  intro T hT X
  have htr : e.platform.stackTraces = false := (show e.platform.stackTraces = l.stackTraces by rw [X.admits.platform]).trans hl
  have Y := vx_rebase X (R' := { frames := R.frames, locals := R.locals, cells := 1, slots := 6 }) (Nat.le_refl _) (Nat.le_refl _) hRcells hRslots
  obtain ⟨s', hA⟩ : ∃ z, z = (T.setVm s.vm).setFrames (.invoking m args :: below) := ⟨_, rfl⟩
  rw [← hA] at Y
  have hvm : s'.vm = s.vm := by rw [hA]; rfl
  have hhp : s'.heap = H := by rw [hA]; exact hT
  have hW0 : s.WarmedH s'.vm := by rw [hvm]; exact State.WarmedH.refl s
  have hat' : ∀ w ∈ vx_atS own ic cls names, w.before args s' = true := fun w hw => vx_ot_at hW0 hvm.symm (hgood w (List.mem_cons_of_mem _ (List.mem_cons_of_mem _ hw))) (hat w hw)
  have hk' : (Cond.classLink own ik cls).before args s' = true := vx_ot_at hW0 hvm.symm (hgood _ List.mem_cons_self) hk
  have hini' : (Cond.initialized cls).before args s' = true := vx_ot_at hW0 hvm.symm (hgood _ (List.mem_cons_of_mem _ List.mem_cons_self)) hini
  have hU' : vx_Zq Bundle.tN "UNASSIGNED_STACK" Bundle.steD A s' s'.heap := by rw [hhp]; exact vx_Zq.moved hW0.alike (hU.kept hS.2.1)
  have hN' : vx_Zq Bundle.tN "SUPPRESSED_SENTINEL" Bundle.listD A s' s'.heap := by rw [hhp]; exact vx_Zq.moved hW0.alike (hN.kept hS.2.1)
  have h : ∀ w ∈ Bundle.ownAtoms own ic cls names, w.before args s' = true := vx_own hat' (vx_isRefq hU'.1) (vx_isRefq hN'.1) hU'.2.word hN'.2.word
  have hown' : s'.vm.findClass own = some m.cls := by rw [hvm]; exact hown
  have hins : (Cond.instantiable cls 6).before args s' = true := h _ (by simp [Bundle.ownAtoms])
  obtain ⟨vm₁, cX, kX, hfX, hkX, -, -, X₁, st1⟩ := Y.newCold hexec (own := own) (C := cls) (index := ik) (n := 6) hown' hk' hins hini'
    (g := F0 m pc ls rest) rfl (by rw [hb]; exact d0) (Nat.le_refl _) (Nat.le_refl _)
  generalize hT1 : (T.setVm vm₁).pushCell { cls := cX, slots := kX.instanceTypes.map defaultValue, vm := .none } = T1 at X₁ st1
  have hcat : (Value.ref T.heap.size).category = 1 := rfl
  have hcellA : T1.heap[T.heap.size]? = some (freshCell cX kX) := by rw [← hT1]; exact State.heap_pushCell_size _ _
  have d3' : decode c.code (pc + 3) = .ok (.dup, 1) := by rw [hb]; exact d3
  have d4' : decode c.code (pc + 4) = .ok (.ldc_w is, 3) := by rw [hb]; exact d4
  have hstr' : vk_R own is text sa s' := vk_R.warm hW0 hstr
  obtain ⟨U, hsteps, hrun, hend, hW, hsame, ce, hce, hO⟩ := X₁.ctorThrowS hexec htr (own := own) (cls := cls) (names := names) (ic := ic) hown' hcls hnames h (fun x hx => nomatch hx) hfX hkX hcellA (by rw [hhp, hT]; exact Nat.le_refl _) (msg := .ref sa) rfl
    (g := { method := m, pc := pc + 7, locals := ls, stack := .ref sa :: .ref T.heap.size :: .ref T.heap.size :: rest, locked := none }) rfl hsize rfl rfl (rest := rest) rfl
    (by rw [hb]; exact d7) (by rw [hb]; exact d10) hout hRframes (by simp only [List.map_cons, List.sum_cons, hcat]; omega) hlocks
  obtain ⟨f1, f2⟩ := vx_frame hsame
  rw [hhp] at f1 f2
  have hWs : s.WarmedH U.vm := State.WarmedH.trans hW0 hW
  have hcl : s.vm.findClass cls = some ce.cls := by
    have h9 := hO.cls
    rw [hvm] at h9
    exact h9
  have hall : s.sameButNew ({ U with vm := s.vm } : State) locs mc ms := by
    subst hA
    obtain ⟨e1, e2⟩ := hsame
    rw [State.setFrames_setFrames] at e1
    have h2 : (T.setVm s.vm).sameButNew ({ U with vm := s.vm } : State) [] (0 + 1) (0 + 6) := ⟨e1, e2⟩
    have h3 := X.same.trans h2
    rw [List.append_nil] at h3
    exact h3.mono hc hs
  refine ⟨U, ?_, .threw T.heap.size, hrun, hend, Or.inr ⟨T.heap.size, rfl, cls, ce, locs, hx U hWs.alike f1 (fun q hq => f2 q hq (fun z hz => nomatch hz)), hce, hO.vm, hcl, hWs, hall, hf⟩⟩
  refine st1 _ ?_
  show Steps p.tables e below (T1.setTop { method := m, pc := pc + 3, locals := ls, stack := .ref T.heap.size :: rest, locked := none }) _
  jvm_step X₁.here [X₁.here.top, hexec, d3', Value.category]
  exact X₁.ldcStringW hexec (own := own) (text := text) (index := is) (a := sa) hown' hstr'.1 hstr'.2
    (g := { method := m, pc := pc + 4, locals := ls, stack := .ref T.heap.size :: .ref T.heap.size :: rest, locked := none }) rfl d4' _ hsteps
end Ends
section Bodies
variable {l : Launch}
theorem vx_ofW {y : MethodName} {ws ws' : List Cond} {rm : Room} {Pc : Array Value → State → Prop} {Qc : Array Value → State → Outcome → State → Prop} {XC : String → State → State → Prop} {mc ms : Nat} {free : Addr → Prop} {cc : ByteArray} {maxL : Nat} {ret : Option FieldType}
    (hy : plainName y.cls = true) (hw : ws = Cond.code y cc maxL ret :: ws')
    (body : ∀ p e s m args below meth c s₁, BodyLoose p l y (headSpec ws rm) cc maxL ret e s m args below meth c s₁ → c.maxLocals = maxL → (∀ x ∈ c.exceptionTable.toList, False) → Pc args s →
      W p l e (headSpec ws rm).room s m args below meth c s.heap [] 0 0 (vx_MQ below Qc XC args s mc ms free) (entryFrame m args maxL)) : vx_Met l y ws rm Pc Qc XC mc ms free := by
  refine MetFree.of_bodyS (code := cc) (maxLocals := maxL) (ret := ret) hy ?_ ?_
  · intro args s m h hn
    obtain ⟨meth, c, h1, h2, h3, h4, h5, h6, -, -⟩ := Cond.code_spec hn (atoms_spec (ws := ws) h _ (by rw [hw]; exact List.mem_cons_self))
    exact ⟨meth, c, h1, h2, h3, h4, h5, h6⟩
  · intro p e s m args below meth c s₁ B hml hP _
    have hh0 : s₁.heap = s.heap := by rw [B.state]; rfl
    have ht : ∀ x ∈ c.exceptionTable.toList, False := by
      obtain ⟨meth9, c9, h1, h2, -, -, -, -, h7, -⟩ := Cond.code_spec B.named (atoms_spec (ws := ws) B.pre _ (by rw [hw]; exact List.mem_cons_self))
      cases Option.some.inj (h1.symm.trans B.method)
      cases Option.some.inj (h2.symm.trans (Stand.of_body B).code)
      intro x hx
      rw [Array.isEmpty_iff.mp h7] at hx
      cases hx
    obtain ⟨t, a1, o, b1, b2, b3⟩ := body p e s m args below meth c s₁ B hml ht hP s₁ hh0 (Stand.of_body B)
    exact ⟨t, o, a1, b1, b2, b3⟩
/-- the table of a body with handlers -/
theorem vx_table {p : Program} {x y : MethodName} {S : Spec} {cc bytes : ByteArray} {maxL maxL' : Nat} {ret ret' : Option FieldType} {e : Env} {s s₁ : State} {m : MethodId} {args : Array Value} {below : List Frame} {meth : Method} {c : Code} {hh : List (Nat × Nat × Nat × Nat)}
    (B : BodyLoose p l y S cc maxL ret e s m args below meth c s₁) (h : (Cond.codeWith y bytes maxL' ret' hh).before args s = true) : c.exceptionTable.toList = tableOf hh := by
  obtain ⟨m9, meth9, c9, hn9, h1, h2, -, -, h6, -⟩ := Cond.codeWith_spec h
  cases Option.some.inj (hn9.symm.trans B.named)
  cases Option.some.inj (h1.symm.trans B.method)
  cases Option.some.inj (h2.symm.trans (Stand.of_body B).code)
  rw [← h6, table_eq]
end Bodies
end VXA
/-! ===== END ===== -/
/-! ===== BEGIN a static call of a method with an exception table ===== -/
section VXS
variable {p : Program} {l : Launch} {e : Env} {R : Room} {s : State} {m : MethodId} {args : Array Value} {below : List Frame} {meth : Method} {c : Code} {T : State} {H : Heap} {locs : List Loc} {cells slots : Nat}
abbrev vx_CSW (R : Room) (s : State) (args : Array Value) (own : String) (index : Nat) (y : MethodName) (bytes : ByteArray) (maxL : Nat) (ret : Option FieldType) (hh : List (Nat × Nat × Nat × Nat)) (ws : List Cond) (rm : Room) (mc ms n : Nat) : Prop :=
  (rm.cells = mc ∧ rm.slots = ms ∧ rm.frames + 1 ≤ R.frames ∧ 8 + (maxL + 11) + rm.locals ≤ R.locals ∧ (∀ w ∈ ws, ∀ (a' : Array Value) (U : State), s.WarmedH U.vm → w.before a' U = true) ∧ Cond.codeWith y bytes maxL ret hh ∈ ws) ∧
  (Cond.codeWith y bytes maxL ret hh).before args s = true ∧ (Cond.initialized y.cls).before args s = true ∧ (y.cls ≠ "java/lang/invoke/MethodHandle" ∧ y.cls ≠ "java/lang/invoke/VarHandle") ∧
  (∀ sig, parseMethodDescriptor y.desc = some sig → n = sig.parameters.length) ∧ (Cond.methodLink own index y).before args s = true ∧ (Cond.static y).before args s = true
theorem vx_cwSW {own : String} {index maxL mc ms : Nat} {y : MethodName} {bytes : ByteArray} {ret : Option FieldType} {hh : List (Nat × Nat × Nat × Nat)} {Ts ws ws' : List Cond} {rm : Room} (n : Nat) (ht : ∀ w ∈ Ts, w.before args s = true) (hT : GoodIn Ts (va_wsS own index y ws)) (hw : ws = Cond.codeWith y bytes maxL ret hh :: ws') (hrc : rm.cells = mc) (hrs : rm.slots = ms)
    (hd : y.cls ≠ "java/lang/invoke/MethodHandle" ∧ y.cls ≠ "java/lang/invoke/VarHandle" ∧ (parseMethodDescriptor y.desc).map (fun d => d.parameters.length) = some n) (hR : rm.frames + 1 ≤ R.frames ∧ 8 + (maxL + 11) + rm.locals ≤ R.locals) :
    vx_CSW R s args own index y bytes maxL ret hh ws rm mc ms n := by
  have ok : ∀ w ∈ va_wsS own index y ws, w.before args s = true := fun w h => ht w (hT w h).1
  have hG : GoodIn Ts ws := fun w h => hT w (by unfold va_wsS; exact List.mem_append_right _ h)
  have hc : Cond.codeWith y bytes maxL ret hh ∈ ws := by rw [hw]; exact List.mem_cons_self
  refine ⟨⟨hrc, hrs, hR.1, hR.2, pay_in ht hG, hc⟩, ht _ (hG _ hc).1, ok _ (by simp [va_wsS]), ⟨hd.1, hd.2.1⟩, fun sig h => ?_, ok _ (by simp [va_wsS]), ok _ (by simp [va_wsS])⟩
  have h2 := hd.2.2
  rw [h] at h2
  exact (Option.some.inj h2).symm
theorem vx_callSW (X : Stand p l e R s m args below meth c T locs cells slots) (hexec : p.tables.exec = Jvm.exec) {own : String} {index : Nat} {y : MethodName} {bytes : ByteArray} {maxL : Nat} {ret : Option FieldType} {hh : List (Nat × Nat × Nat × Nat)}
    (hown : s.vm.findClass own = some m.cls) (hlink : (Cond.methodLink own index y).before args s = true) (hstat : (Cond.static y).before args s = true) (hinit : (Cond.initialized y.cls).before args s = true)
    (hcode : (Cond.codeWith y bytes maxL ret hh).before args s = true) (hy : y.cls ≠ "java/lang/invoke/MethodHandle" ∧ y.cls ≠ "java/lang/invoke/VarHandle")
    {W9 : Nat} {Pre : Pt → Array Value → Prop} {Post : Pt → Array Value → Option Value → Pt → Prop} (hK : Back l R p e below s args y 3 W9 Pre Post)
    {g : JFrame} (hg : g.method = m) (hsize : g.locals.size = c.maxLocals) {argsL rest : List Value} (hlen : ∀ sig, parseMethodDescriptor y.desc = some sig → argsL.length = sig.parameters.length)
    (hstack : g.stack = argsL.reverse ++ rest) (hW : 2 * g.monitorRoom + (rest.map fun v => v.category).sum ≤ W9) (hdg : decode c.code g.pc = .ok (.invokestatic index, 3))
    (hpre : ∀ vm₁, s.WarmedH vm₁ → Pre ⟨T.setVm vm₁, locs, cells, slots⟩ argsL.toArray) :
    ∃ (v : Option Value) (vm₁ : Vm) (B : Pt), s.WarmedH vm₁ ∧ Stand p l e R s m args below meth c B.U B.locs B.cells B.slots ∧ Post ⟨T.setVm vm₁, locs, cells, slots⟩ argsL.toArray v B ∧
      ∀ target, Steps p.tables e below (B.U.setTop { g with pc := g.pc + 3, stack := v.toList ++ rest }) target → Steps p.tables e below (T.setTop g) target := by
  obtain ⟨mk, methM, cM, hnamed, hmethM, -, -, -, -, -, -, hsigM⟩ := Cond.codeWith_spec hcode
  have hstatic : methM.isStatic = true := Cond.static_spec hnamed hmethM hstat
  obtain ⟨kP, hkP, -⟩ := className_of_methodNamed hnamed
  have hinitP : kP.init = .initialized := Cond.initialized_spec (findClass_of_methodNamed hnamed) hkP hinit
  obtain ⟨vm₁, X₁, hstep₁⟩ := X.invokestatic hexec hown hlink hnamed hmethM hstatic hkP hinitP hy (g := g) hg (argsL := argsL) (rest := rest) (hlen _ hsigM) hstack hdg
  obtain ⟨v, B, X', hpost, hsteps⟩ := hK m meth c ⟨T.setVm vm₁, locs, cells, slots⟩ { g with stack := rest } (.invokestatic index) mk argsL.toArray X₁ hg hsize hdg hW (X₁.named hnamed) (hpre vm₁ X₁.warmed)
  exact ⟨v, vm₁, B, X₁.warmed, X', hpost, fun target h => hstep₁ _ fun acts => by rw [doInvoke_state]; exact hsteps.trans h⟩
theorem vx_runSW {y : MethodName} {bytes cc : ByteArray} {maxL nL mc ms n index : Nat} {ret : Option FieldType} {hh : List (Nat × Nat × Nat × Nat)} {ws : List Cond} {rm : Room} {Pc : Array Value → State → Prop} {Qc : Array Value → State → Outcome → State → Prop} {free : Addr → Prop} {Ts : List Cond} {own : String} {As rest : List Value} {g : JFrame}
    (S : CallFix p m c cc nL s args Ts own) (hM : Met l y ws rm Pc Qc mc ms free) (cw : vx_CSW R s args own index y bytes maxL ret hh ws rm mc ms n) (hp : PreS s H Pc As)
    (hg : g.method = m) (hn : As.length = n) (hsize : g.locals.size = nL) (hstack : g.stack = As.reverse ++ rest) (hW : 2 * g.monitorRoom + (rest.map fun v => v.category).sum ≤ 8) (hdg : decode cc g.pc = .ok (.invokestatic index, 3)) (hf : cells + mc ≤ R.cells ∧ slots + ms ≤ R.slots) :
    va_Run p l e R s m args below meth c H locs cells slots mc ms g rest (Qc As.toArray) (free) := by
  obtain ⟨⟨hrc, hrs, hfr, hlo, hws, hcw⟩, hcode, hini, hy, hlen, hl, hstt⟩ := cw
  have hK : Back l R p e below s args y 3 8 (PreOf R mc ms Pc) (PostOf Qc mc ms free) := va_backW (hh := hh) (bytes := bytes) (maxL := maxL) (ret := ret) hM hp.1 hrc hrs hfr hlo hws hcw (fun a' U hW => word_at hW (Or.inl (by first | rfl | simp [Cond.onTables, Cond.keeps, Cond.steady])) hini)
  obtain ⟨hx, hb, hml, ho, -⟩ := S
  intro T hT X
  obtain ⟨v, vm₁, ⟨U', l2, c2, s2⟩, hW₁, X', ⟨g', mk, t, L, e1, e2, hq, h1, hL, h2, h3⟩, st⟩ := vx_callSW X hx (hh := hh) (bytes := bytes) (maxL := maxL) (ret := ret) ho hl hstt hini hcode hy hK hg (hsize.trans hml.symm) (argsL := As) (rest := rest) (fun sig h => hn.trans (hlen sig h)) hstack hW (by rw [hb]; exact hdg)
    (fun vm₁ hW₁ => ⟨hf.1, hf.2, hp.2 (T.setVm vm₁) hT hW₁⟩)
  dsimp only [Pt.U, Pt.locs, Pt.cells, Pt.slots] at X' e1 e2 h1 h2 h3 st
  subst h1; subst h2; subst h3
  exact ⟨v, (T.setVm vm₁).calling g' mk As.toArray, t, U', L, hT, X', hL, e1, e2, hq, st⟩
/-- not caught here, past rows that name other classes: it goes on to the caller -/
theorem vx_outP {p : Program} {l : Launch} {e : Env} {R : Room} {s : State} {m : MethodId} {args : Array Value} {below : List Frame} {meth : Method} {c : Code} {H : Heap} {locs : List Loc} {cells slots : Nat} {free : Addr → Prop} {ls : Array Slot} {rest : List Value} {Qc : Array Value → State → Outcome → State → Prop} {XC : String → State → State → Prop}
    {pc : Nat} {own E : String} {ce : Cell} {q : Addr} {mc ms : Nat} (hown : s.vm.findClass own = some m.cls) (hlocks : meth.locks = false)
    (hpass : ∀ z ∈ c.exceptionTable.toList, covers z pc = false ∨ (z.catchType ≠ 0 ∧ ∃ nm : String, (Cond.classLink own z.catchType nm).before args s = true ∧ va_Nc E nm s)) (hcell : H[q]? = some ce) (hv : ce.vm = .none) (hcl : s.vm.findClass E = some ce.cls)
    (hx : ∀ t : State, t.heap = H → s.vm.Alike t.vm → XC E s t) (hf : ∀ z ∈ locs, free z.base) (hc : cells ≤ mc) (hs : slots ≤ ms) :
    vx_W p l e R s m args below meth c H locs cells slots (vx_MQ below Qc XC args s mc ms free) (F0 m pc ls rest) q := by
  intro T hT X
  have hpl : e.platform.magicAccessors = ({} : Platform).magicAccessors := by rw [X.admits.platform]
  obtain ⟨vm', hW', X', st⟩ := X.outThrough hlocks q (g := F0 m pc ls rest) rfl rfl rfl (cell := ce) (by rw [hT]; exact hcell) (by rw [hv]; rfl)
    (by obtain ⟨k9, h9, -⟩ := Vm.findClass_spec hcl; exact ⟨k9, h9⟩) (fun z hz => by
      rcases hpass z hz with h | ⟨hz0, nm, hl1, hn1⟩
      · exact Or.inl h
      · obtain ⟨c6, hc6, hcl6⟩ := Cond.classLink_spec hown hl1 e.platform hpl
        obtain ⟨a8, b8, h1, h2, h3⟩ := hn1
        cases Option.some.inj (h1.symm.trans hcl)
        cases Option.some.inj (h2.symm.trans hc6)
        exact Or.inr ⟨hz0, _, hcl6, h3⟩)
  obtain ⟨g₀, hfr⟩ := X'.frames_eq
  have hcell9 : ((T.setVm vm').setFrames (.throwing q :: below)).heap[q]? = some ce := by
    show T.heap[q]? = some ce
    rw [hT]; exact hcell
  have hend : Ended ((T.setVm vm').setFrames (.throwing q :: below)) below (.threw q) := State.frames_setFrames _ (State.cur_lt_of_frames hfr)
  refine ⟨(T.setVm vm').setFrames (.throwing q :: below), ?_, .threw q, X'.here.running, hend, Or.inr ⟨q, rfl, E, ce, locs, hx _ hT (X'.ends _).1.alike, hcell9, hv, hcl, (X'.ends _).1, (X'.ends _).2.mono hc hs, hf⟩⟩
  rw [X.pushThrowing_eq]
  exact st
/-- a thing of a world lies in the heap -/
theorem vx_lt {D : va_G} {cl : List vw_C} {ws : va_W} {H1 : Heap} (h : va_P D cl ws H1) {k : Nat} {q : Nat × va_E} (hk : ws[k]? = some q) : q.1 < H1.size := (h k q hk).lt
end VXS
/-! ===== END ===== -/
/-! ===== BEGIN methods with a table of their own: called by a name, returning or throwing ===== -/
section VXH
/-! vx_backW, vx_callVX, vx_callSX, vx_callVW, vx_runVW, vx_runVX, vx_runSX, vx_ofWH follow the same proofs as their sisters above (Free/Laws.lean, Shelf42/LK1.lean); vx_outP calls Shelf42/NT130.lean (outThrough). -/
section
variable {l : Launch} {R : Room} {p : Program} {e : Env} {below : List Frame} {s : State} {sargs : Array Value} {y : MethodName} {len W9 : Nat}
theorem vx_backW {ws : List Cond} {rm : Room} {Pc : Array Value → State → Prop} {Qc : Array Value → State → Outcome → State → Prop} {XC : String → State → State → Prop} {mc ms : Nat} {free : Addr → Prop} {bytes : ByteArray} {maxL : Nat} {ret : Option FieldType} {hh : List (Nat × Nat × Nat × Nat)}
    (hM : vx_Met l y ws rm Pc Qc XC mc ms free) (hblind : FrameBlind Pc) (hrc : rm.cells = mc) (hrs : rm.slots = ms)
    (hframes : rm.frames + 1 ≤ R.frames) (hlocals : W9 + (maxL + 11) + rm.locals ≤ R.locals)
    (hws : ∀ w ∈ ws, ∀ a' U, s.WarmedH U.vm → w.before a' U = true) (hcode : Cond.codeWith y bytes maxL ret hh ∈ ws) (hinit : ∀ a' U, s.WarmedH U.vm → (Cond.initialized y.cls).before a' U = true) :
    vx_Back l R p e below s sargs y len W9 (PreOf R mc ms Pc) (PostOf Qc mc ms free) (vx_Post XC mc ms free) := by
  intro m meth c A g ig mk a X hg hsize hdg hW hn hp
  have h1 : (headSpec ws rm).pre.before a A.U = true := atoms_intro fun w hw => hws w hw _ _ X.warmed
  have h2 : (Cond.codeWith y bytes maxL ret hh).before a A.U = true := hws _ hcode _ _ X.warmed
  have h3 : (Cond.initialized y.cls).before a A.U = true := hinit _ _ X.warmed
  have h4 : A.cells + (headSpec ws rm).room.cells ≤ R.cells := by rw [show (headSpec ws rm).room.cells = mc from hrc]; exact hp.1
  have h5 : A.slots + (headSpec ws rm).room.slots ≤ R.slots := by rw [show (headSpec ws rm).room.slots = ms from hrs]; exact hp.2.1
  have hPc : Pc a (A.U.calling g mk a) := hblind _ _ _ _ hp.2.2
  obtain ⟨U, Ls, c0, s0⟩ := A
  dsimp only [Pt.U, Pt.locs, Pt.cells, Pt.slots] at h1 h2 h3 h4 h5 X hn hPc ⊢
  obtain ⟨m9, methY, cY, hn9, hmY, hcY, -, hlY, -⟩ := Cond.codeWith_spec h2
  cases Option.some.inj (hn9.symm.trans hn)
  obtain ⟨kY, hkY, -⟩ := className_of_methodNamed hn
  have hinitY : kY.init = .initialized := Cond.initialized_spec (findClass_of_methodNamed hn) hkY h3
  have h : At U g.method c below := by rw [hg]; exact X.here
  have hlocals9 : W9 + (maxL + 11) + (headSpec ws rm).room.locals ≤ R.locals := hlocals
  have happ : (headSpec ws rm).appliesLoose y e.platform (U.calling g mk a) = true :=
    Spec.appliesLoose_calling (g := g) h hdg hn hkY hinitY
      (X.room_calling (g := g) (R' := (headSpec ws rm).room) hsize hmY hcY hframes (by rw [hlY]; omega) h4 h5) h1
  obtain ⟨mid, hmid⟩ := h.above
  have hfr : (U.setTop g).frames = (.java g :: mid) ++ below := by rw [State.frames_setTop' g h.top, hmid]; rfl
  obtain ⟨o, s₂, hsteps, -, hend, hq⟩ := Steps.callFree hM p X.admits X.cas X.clock (acts := []) hfr happ hPc trivial
  have hq' : vx_Q Qc XC mc ms free a (U.calling g mk a) o s₂ := hq
  rw [State.frames_setTop' g h.top] at hend
  obtain ⟨g₀, hg0⟩ := Option.isSome_iff_exists.mp h.top
  obtain ⟨r, hr⟩ := State.topJava?_eq_some.mp hg0
  have hr' : (({ U with heap := s₂.heap, slotsUsed := s₂.slotsUsed } : State).setVm s₂.vm).frames = .java g₀ :: r := hr
  rcases hq' with ⟨hqc, L, hfe, hL⟩ | ⟨q, rfl, E, ce, L, hx, hce, hcv, hcl, hW₂, hsm, hL⟩
  · obtain ⟨⟨v, rfl⟩, hW₂, e2, q2, q3, q4, q5, q6⟩ := id hfe
    have e3 : s₂ = ({ (U.calling g mk a).setFrames s₂.frames with heap := s₂.heap, slotsUsed := s₂.slotsUsed } : State).setVm s₂.vm := by
      have : s₂ = ({ s₂ with vm := (U.calling g mk a).vm } : State).setVm s₂.vm := rfl
      rw [e2] at this
      exact this
    obtain ⟨c₂, i₂, len₂, hc₂, hd₂, hf₂⟩ := hend
    have hW' : U.WarmedH s₂.vm := hW₂
    have hcc : c₂ = c := by
      have h1 : s₂.code? g.method = U.code? g.method := by
        rw [State.code?_eq, State.code?_eq, hW'.alike.method?]
      exact Option.some.inj (hc₂.symm.trans (h1.trans h.code))
    subst hcc
    have hlen : len₂ = len := by rw [hdg] at hd₂; cases hd₂; rfl
    subst hlen
    have hs₂ : s₂ = (({ U with heap := s₂.heap, slotsUsed := s₂.slotsUsed } : State).setVm s₂.vm).setTop { g with pc := g.pc + len₂, stack := v.toList ++ g.stack } := by
      refine e3.trans ?_
      rw [hf₂, State.calling_eq h.top, State.setFrames_setFrames, State.setTop_of_frames _ hr', hr]
      rfl
    have hsame : U.sameButNew ({ U with heap := s₂.heap, slotsUsed := s₂.slotsUsed } : State) L mc ms := by
      refine ⟨?_, q2, q3, q4, q5, q6⟩
      obtain ⟨t, ht, -⟩ := State.frames_cons hr
      show ({ U with heap := s₂.heap, slotsUsed := s₂.slotsUsed } : State) = { U.setFrames U.frames with heap := s₂.heap, slotsUsed := s₂.slotsUsed }
      rw [State.setFrames_self ht]
    subst hg
    refine Or.inl ⟨v, ⟨(({ U with heap := s₂.heap, slotsUsed := s₂.slotsUsed } : State).setVm s₂.vm), Ls ++ L, c0 + mc, s0 + ms⟩,
      ⟨X.admits, X.cas, X.clock, X.frames, X.room, X.hears, X.method, X.code, (X.here.setHeapUsed s₂.heap s₂.slotsUsed).setVm hW'.alike, X.tail, State.WarmedH.trans X.warmed hW', X.limits, X.bytes, X.same.trans (hsame.setVm s.vm)⟩,
      ⟨g, mk, s₂, L, rfl, rfl, hqc, rfl, hL, rfl, rfl⟩, ?_⟩
    show Steps p.tables e below _ ((({ U with heap := s₂.heap, slotsUsed := s₂.slotsUsed } : State).setVm s₂.vm).setTop { g with pc := g.pc + len₂, stack := v.toList ++ g.stack })
    rw [← hs₂]
    exact hsteps
  · obtain ⟨e2, q2, q3, q4, q5, q6⟩ := id hsm
    have e3 : s₂ = ({ (U.calling g mk a).setFrames s₂.frames with heap := s₂.heap, slotsUsed := s₂.slotsUsed } : State).setVm s₂.vm := by
      have : s₂ = ({ s₂ with vm := (U.calling g mk a).vm } : State).setVm s₂.vm := rfl
      rw [e2] at this
      exact this
    have hf₂ : s₂.frames = .throwing q :: .java g :: U.frames.tail := hend
    have hW' : U.WarmedH s₂.vm := hW₂
    have hs₂ : s₂ = ((({ U with heap := s₂.heap, slotsUsed := s₂.slotsUsed } : State).setVm s₂.vm).setTop g).pushFrame (.throwing q) := by
      refine e3.trans ?_
      rw [hf₂, State.calling_eq h.top, State.setFrames_setFrames, State.pushFrame, State.frames_setTop _ hr', State.setTop_of_frames _ hr', State.setFrames_setFrames, hr]
      rfl
    have hsame : U.sameButNew ({ U with heap := s₂.heap, slotsUsed := s₂.slotsUsed } : State) L mc ms := by
      refine ⟨?_, q2, q3, q4, q5, q6⟩
      obtain ⟨t, ht, -⟩ := State.frames_cons hr
      show ({ U with heap := s₂.heap, slotsUsed := s₂.slotsUsed } : State) = { U.setFrames U.frames with heap := s₂.heap, slotsUsed := s₂.slotsUsed }
      rw [State.setFrames_self ht]
    subst hg
    refine Or.inr ⟨q, ⟨(({ U with heap := s₂.heap, slotsUsed := s₂.slotsUsed } : State).setVm s₂.vm), Ls ++ L, c0 + mc, s0 + ms⟩,
      ⟨X.admits, X.cas, X.clock, X.frames, X.room, X.hears, X.method, X.code, (X.here.setHeapUsed s₂.heap s₂.slotsUsed).setVm hW'.alike, X.tail, State.WarmedH.trans X.warmed hW', X.limits, X.bytes, X.same.trans (hsame.setVm s.vm)⟩,
      ⟨g, mk, s₂, L, E, ce, rfl, rfl, hx, hce, hcv, hcl, rfl, hL, rfl, rfl⟩, ?_⟩
    show Steps p.tables e below _ (((({ U with heap := s₂.heap, slotsUsed := s₂.slotsUsed } : State).setVm s₂.vm).setTop g).pushFrame (.throwing q))
    rw [← hs₂]
    exact hsteps
end
variable {p : Program} {l : Launch} {e : Env} {R : Room} {s : State} {m : MethodId} {args : Array Value} {below : List Frame} {meth : Method} {c : Code} {T : State} {H : Heap} {locs : List Loc} {cells slots : Nat}
theorem vx_callVX (X : Stand p l e R s m args below meth c T locs cells slots) (hexec : p.tables.exec = Jvm.exec) {own C : String} {index : Nat} {y : MethodName} {bytes : ByteArray} {maxL : Nat} {ret : Option FieldType} {hh : List (Nat × Nat × Nat × Nat)}
    (hown : s.vm.findClass own = some m.cls) (hlink : (Cond.methodLink own index y).before args s = true) (hinst : (Cond.instanceMethod y).before args s = true) (hsel : (Cond.selects C y y).before args s = true)
    (hcode : (Cond.codeWith y bytes maxL ret hh).before args s = true) (hy : y.cls ≠ "java/lang/invoke/MethodHandle" ∧ y.cls ≠ "java/lang/invoke/VarHandle")
    {W9 : Nat} {Pre : Pt → Array Value → Prop} {Post : Pt → Array Value → Option Value → Pt → Prop} {PostX : Pt → Array Value → Addr → Pt → Prop} (hK : vx_Back l R p e below s args y 3 W9 Pre Post PostX)
    {b : Addr} {cellB : Cell} (hcell : T.heap[b]? = some cellB) (hobj : cellB.vm.isStatics = false) (hcls : s.vm.findClass C = some cellB.cls)
    {g : JFrame} (hg : g.method = m) (hsize : g.locals.size = c.maxLocals) {argsL rest : List Value} (hlen : ∀ sig, parseMethodDescriptor y.desc = some sig → argsL.length = sig.parameters.length)
    (hstack : g.stack = argsL.reverse ++ .ref b :: rest) (hW : 2 * g.monitorRoom + (rest.map fun v => v.category).sum ≤ W9) (hdg : decode c.code g.pc = .ok (.invokevirtual index, 3))
    (hpre : ∀ vm₁, s.WarmedH vm₁ → Pre ⟨T.setVm vm₁, locs, cells, slots⟩ (Value.ref b :: argsL).toArray) :
    (∃ (v : Option Value) (vm₁ : Vm) (B : Pt), s.WarmedH vm₁ ∧ Stand p l e R s m args below meth c B.U B.locs B.cells B.slots ∧ Post ⟨T.setVm vm₁, locs, cells, slots⟩ (Value.ref b :: argsL).toArray v B ∧
      ∀ target, Steps p.tables e below (B.U.setTop { g with pc := g.pc + 3, stack := v.toList ++ rest }) target → Steps p.tables e below (T.setTop g) target) ∨
    (∃ (q : Addr) (vm₁ : Vm) (B : Pt), s.WarmedH vm₁ ∧ Stand p l e R s m args below meth c B.U B.locs B.cells B.slots ∧ PostX ⟨T.setVm vm₁, locs, cells, slots⟩ (Value.ref b :: argsL).toArray q B ∧
      Steps p.tables e below (T.setTop g) ((B.U.setTop { g with stack := rest }).pushFrame (.throwing q))) := by
  obtain ⟨mk, methM, hnamed, hmethM, hstM, habM⟩ := Cond.instanceMethod_spec hinst
  obtain ⟨m8, methM', cM, hn8, hmethM', -, -, -, -, -, -, hsigM⟩ := Cond.codeWith_spec hcode
  cases Option.some.inj (hn8.symm.trans hnamed)
  cases hmethM.symm.trans hmethM'
  obtain ⟨c2, r2, m2, q1, q2, q3, q4, kP, hkP, hkPi⟩ := Cond.selects_spec hsel
  cases hcls.symm.trans q1
  cases (State.methodFound?_of_named hnamed hy).symm.trans q2
  cases hnamed.symm.trans q3
  have hselP : selectMethod e.platform s.vm cellB.cls mk = .method mk := by rw [Launch.admits_selectMethod X.admits]; exact q4
  obtain ⟨vm₁, X₁, hstep₁⟩ := X.invokevirtual hexec hown hlink hnamed hmethM hstM hkP hkPi hy (a := b) (cell := cellB) hcell
    (fun z h => by rw [h] at hobj; cases hobj) hselP hmethM habM hkP hkPi (g := g) hg (argsL := argsL) (rest := rest) (hlen _ hsigM) hstack hdg
  rcases hK m meth c ⟨T.setVm vm₁, locs, cells, slots⟩ { g with stack := rest } (.invokevirtual index) mk (Value.ref b :: argsL).toArray X₁ hg hsize hdg hW (X₁.named hnamed) (hpre vm₁ X₁.warmed) with ⟨v, B, X', hpost, hsteps⟩ | ⟨q, B, X', hpost, hsteps⟩
  · exact Or.inl ⟨v, vm₁, B, X₁.warmed, X', hpost, fun target h => hstep₁ _ fun acts => by rw [doInvoke_state]; exact hsteps.trans h⟩
  · exact Or.inr ⟨q, vm₁, B, X₁.warmed, X', hpost, hstep₁ _ fun acts => by rw [doInvoke_state]; exact hsteps⟩
theorem vx_callSX (X : Stand p l e R s m args below meth c T locs cells slots) (hexec : p.tables.exec = Jvm.exec) {own : String} {index : Nat} {y : MethodName} {bytes : ByteArray} {maxL : Nat} {ret : Option FieldType} {hh : List (Nat × Nat × Nat × Nat)}
    (hown : s.vm.findClass own = some m.cls) (hlink : (Cond.methodLink own index y).before args s = true) (hstat : (Cond.static y).before args s = true) (hinit : (Cond.initialized y.cls).before args s = true)
    (hcode : (Cond.codeWith y bytes maxL ret hh).before args s = true) (hy : y.cls ≠ "java/lang/invoke/MethodHandle" ∧ y.cls ≠ "java/lang/invoke/VarHandle")
    {W9 : Nat} {Pre : Pt → Array Value → Prop} {Post : Pt → Array Value → Option Value → Pt → Prop} {PostX : Pt → Array Value → Addr → Pt → Prop} (hK : vx_Back l R p e below s args y 3 W9 Pre Post PostX)
    {g : JFrame} (hg : g.method = m) (hsize : g.locals.size = c.maxLocals) {argsL rest : List Value} (hlen : ∀ sig, parseMethodDescriptor y.desc = some sig → argsL.length = sig.parameters.length)
    (hstack : g.stack = argsL.reverse ++ rest) (hW : 2 * g.monitorRoom + (rest.map fun v => v.category).sum ≤ W9) (hdg : decode c.code g.pc = .ok (.invokestatic index, 3))
    (hpre : ∀ vm₁, s.WarmedH vm₁ → Pre ⟨T.setVm vm₁, locs, cells, slots⟩ argsL.toArray) :
    (∃ (v : Option Value) (vm₁ : Vm) (B : Pt), s.WarmedH vm₁ ∧ Stand p l e R s m args below meth c B.U B.locs B.cells B.slots ∧ Post ⟨T.setVm vm₁, locs, cells, slots⟩ argsL.toArray v B ∧
      ∀ target, Steps p.tables e below (B.U.setTop { g with pc := g.pc + 3, stack := v.toList ++ rest }) target → Steps p.tables e below (T.setTop g) target) ∨
    (∃ (q : Addr) (vm₁ : Vm) (B : Pt), s.WarmedH vm₁ ∧ Stand p l e R s m args below meth c B.U B.locs B.cells B.slots ∧ PostX ⟨T.setVm vm₁, locs, cells, slots⟩ argsL.toArray q B ∧
      Steps p.tables e below (T.setTop g) ((B.U.setTop { g with stack := rest }).pushFrame (.throwing q))) := by
  obtain ⟨mk, methM, cM, hnamed, hmethM, -, -, -, -, -, -, hsigM⟩ := Cond.codeWith_spec hcode
  have hstatic : methM.isStatic = true := Cond.static_spec hnamed hmethM hstat
  obtain ⟨kP, hkP, -⟩ := className_of_methodNamed hnamed
  have hinitP : kP.init = .initialized := Cond.initialized_spec (findClass_of_methodNamed hnamed) hkP hinit
  obtain ⟨vm₁, X₁, hstep₁⟩ := X.invokestatic hexec hown hlink hnamed hmethM hstatic hkP hinitP hy (g := g) hg (argsL := argsL) (rest := rest) (hlen _ hsigM) hstack hdg
  rcases hK m meth c ⟨T.setVm vm₁, locs, cells, slots⟩ { g with stack := rest } (.invokestatic index) mk argsL.toArray X₁ hg hsize hdg hW (X₁.named hnamed) (hpre vm₁ X₁.warmed) with ⟨v, B, X', hpost, hsteps⟩ | ⟨q, B, X', hpost, hsteps⟩
  · exact Or.inl ⟨v, vm₁, B, X₁.warmed, X', hpost, fun target h => hstep₁ _ fun acts => by rw [doInvoke_state]; exact hsteps.trans h⟩
  · exact Or.inr ⟨q, vm₁, B, X₁.warmed, X', hpost, hstep₁ _ fun acts => by rw [doInvoke_state]; exact hsteps⟩
theorem vx_callVW (X : Stand p l e R s m args below meth c T locs cells slots) (hexec : p.tables.exec = Jvm.exec) {own C : String} {index : Nat} {y : MethodName} {bytes : ByteArray} {maxL : Nat} {ret : Option FieldType} {hh : List (Nat × Nat × Nat × Nat)}
    (hown : s.vm.findClass own = some m.cls) (hlink : (Cond.methodLink own index y).before args s = true) (hinst : (Cond.instanceMethod y).before args s = true) (hsel : (Cond.selects C y y).before args s = true)
    (hcode : (Cond.codeWith y bytes maxL ret hh).before args s = true) (hy : y.cls ≠ "java/lang/invoke/MethodHandle" ∧ y.cls ≠ "java/lang/invoke/VarHandle")
    {W9 : Nat} {Pre : Pt → Array Value → Prop} {Post : Pt → Array Value → Option Value → Pt → Prop} (hK : Back l R p e below s args y 3 W9 Pre Post)
    {b : Addr} {cellB : Cell} (hcell : T.heap[b]? = some cellB) (hobj : cellB.vm.isStatics = false) (hcls : s.vm.findClass C = some cellB.cls)
    {g : JFrame} (hg : g.method = m) (hsize : g.locals.size = c.maxLocals) {argsL rest : List Value} (hlen : ∀ sig, parseMethodDescriptor y.desc = some sig → argsL.length = sig.parameters.length)
    (hstack : g.stack = argsL.reverse ++ .ref b :: rest) (hW : 2 * g.monitorRoom + (rest.map fun v => v.category).sum ≤ W9) (hdg : decode c.code g.pc = .ok (.invokevirtual index, 3))
    (hpre : ∀ vm₁, s.WarmedH vm₁ → Pre ⟨T.setVm vm₁, locs, cells, slots⟩ (Value.ref b :: argsL).toArray) :
    ∃ (v : Option Value) (vm₁ : Vm) (B : Pt), s.WarmedH vm₁ ∧ Stand p l e R s m args below meth c B.U B.locs B.cells B.slots ∧ Post ⟨T.setVm vm₁, locs, cells, slots⟩ (Value.ref b :: argsL).toArray v B ∧
      ∀ target, Steps p.tables e below (B.U.setTop { g with pc := g.pc + 3, stack := v.toList ++ rest }) target → Steps p.tables e below (T.setTop g) target := by
  obtain ⟨mk, methM, hnamed, hmethM, hstM, habM⟩ := Cond.instanceMethod_spec hinst
  obtain ⟨m8, methM', cM, hn8, hmethM', -, -, -, -, -, -, hsigM⟩ := Cond.codeWith_spec hcode
  cases Option.some.inj (hn8.symm.trans hnamed)
  cases hmethM.symm.trans hmethM'
  obtain ⟨c2, r2, m2, q1, q2, q3, q4, kP, hkP, hkPi⟩ := Cond.selects_spec hsel
  cases hcls.symm.trans q1
  cases (State.methodFound?_of_named hnamed hy).symm.trans q2
  cases hnamed.symm.trans q3
  have hselP : selectMethod e.platform s.vm cellB.cls mk = .method mk := by rw [Launch.admits_selectMethod X.admits]; exact q4
  obtain ⟨vm₁, X₁, hstep₁⟩ := X.invokevirtual hexec hown hlink hnamed hmethM hstM hkP hkPi hy (a := b) (cell := cellB) hcell
    (fun z h => by rw [h] at hobj; cases hobj) hselP hmethM habM hkP hkPi (g := g) hg (argsL := argsL) (rest := rest) (hlen _ hsigM) hstack hdg
  obtain ⟨v, B, X', hpost, hsteps⟩ := hK m meth c ⟨T.setVm vm₁, locs, cells, slots⟩ { g with stack := rest } (.invokevirtual index) mk (Value.ref b :: argsL).toArray X₁ hg hsize hdg hW (X₁.named hnamed) (hpre vm₁ X₁.warmed)
  exact ⟨v, vm₁, B, X₁.warmed, X', hpost, fun target h => hstep₁ _ fun acts => by rw [doInvoke_state]; exact hsteps.trans h⟩
abbrev vx_CVW (R : Room) (s : State) (args : Array Value) (own C : String) (index : Nat) (y : MethodName) (bytes : ByteArray) (maxL : Nat) (ret : Option FieldType) (hh : List (Nat × Nat × Nat × Nat)) (ws : List Cond) (rm : Room) (mc ms n : Nat) : Prop :=
  (rm.cells = mc ∧ rm.slots = ms ∧ rm.frames + 1 ≤ R.frames ∧ 8 + (maxL + 11) + rm.locals ≤ R.locals ∧ (∀ w ∈ ws, ∀ (a' : Array Value) (U : State), s.WarmedH U.vm → w.before a' U = true) ∧ Cond.codeWith y bytes maxL ret hh ∈ ws) ∧
  (Cond.codeWith y bytes maxL ret hh).before args s = true ∧ (Cond.initialized y.cls).before args s = true ∧ (y.cls ≠ "java/lang/invoke/MethodHandle" ∧ y.cls ≠ "java/lang/invoke/VarHandle") ∧
  (∀ sig, parseMethodDescriptor y.desc = some sig → n = sig.parameters.length) ∧ (Cond.methodLink own index y).before args s = true ∧ (Cond.instanceMethod y).before args s = true ∧ (Cond.selects C y y).before args s = true
theorem vx_cwVW {own C : String} {index maxL mc ms : Nat} {y : MethodName} {bytes : ByteArray} {ret : Option FieldType} {hh : List (Nat × Nat × Nat × Nat)} {Ts ws ws' : List Cond} {rm : Room} (n : Nat) (ht : ∀ w ∈ Ts, w.before args s = true) (hT : GoodIn Ts (wsV own index C y ws)) (hw : ws = Cond.codeWith y bytes maxL ret hh :: ws') (hrc : rm.cells = mc) (hrs : rm.slots = ms)
    (hd : y.cls = C ∧ y.cls ≠ "java/lang/invoke/MethodHandle" ∧ y.cls ≠ "java/lang/invoke/VarHandle" ∧ (parseMethodDescriptor y.desc).map (fun d => d.parameters.length) = some n) (hR : rm.frames + 1 ≤ R.frames ∧ 8 + (maxL + 11) + rm.locals ≤ R.locals) :
    vx_CVW R s args own C index y bytes maxL ret hh ws rm mc ms n := by
  obtain ⟨hC, hd⟩ := hd
  subst hC
  have ok : ∀ w ∈ wsV own index y.cls y ws, w.before args s = true := fun w h => ht w (hT w h).1
  have hG : GoodIn Ts ws := fun w h => hT w (by unfold wsV; exact List.mem_append_right _ h)
  have hc : Cond.codeWith y bytes maxL ret hh ∈ ws := by rw [hw]; exact List.mem_cons_self
  refine ⟨⟨hrc, hrs, hR.1, hR.2, pay_in ht hG, hc⟩, ht _ (hG _ hc).1, ok _ (by simp [wsV]), ⟨hd.1, hd.2.1⟩, fun sig h => ?_, ok _ (by simp [wsV]), ok _ (by simp [wsV]), ok _ (by simp [wsV])⟩
  have h2 := hd.2.2
  rw [h] at h2
  exact (Option.some.inj h2).symm
theorem vx_runVW {y : MethodName} {bytes cc : ByteArray} {maxL nL mc ms n index : Nat} {ret : Option FieldType} {hh : List (Nat × Nat × Nat × Nat)} {ws : List Cond} {rm : Room} {Pc : Array Value → State → Prop} {Qc : Array Value → State → Outcome → State → Prop} {free : Addr → Prop} {Ts : List Cond} {own C : String} {b : Addr} {As rest : List Value} {g : JFrame}
    (S : CallFix p m c cc nL s args Ts own) (hM : Met l y ws rm Pc Qc mc ms free) (cw : vx_CVW R s args own C index y bytes maxL ret hh ws rm mc ms n) (hp : PreV s H C b Pc As)
    (hg : g.method = m) (hn : As.length = n) (hsize : g.locals.size = nL) (hstack : g.stack = As.reverse ++ .ref b :: rest) (hW : 2 * g.monitorRoom + (rest.map fun v => v.category).sum ≤ 8) (hdg : decode cc g.pc = .ok (.invokevirtual index, 3)) (hf : cells + mc ≤ R.cells ∧ slots + ms ≤ R.slots) :
    va_Run p l e R s m args below meth c H locs cells slots mc ms g rest (Qc (Value.ref b :: As).toArray) free := by
  obtain ⟨⟨hrc, hrs, hfr, hlo, hws, hcw⟩, hcode, hini, hy, hlen, hl, hin, hse⟩ := cw
  have hK : Back l R p e below s args y 3 8 (PreOf R mc ms Pc) (PostOf Qc mc ms free) := va_backW (hh := hh) (bytes := bytes) (maxL := maxL) (ret := ret) hM hp.1 hrc hrs hfr hlo hws hcw (fun a' U hW => word_at hW (Or.inl (by first | rfl | simp [Cond.onTables, Cond.keeps, Cond.steady])) hini)
  obtain ⟨hx, hb, hml, ho, -⟩ := S
  obtain ⟨-, ⟨cellB, hcB, hoB, hclB⟩, hPc⟩ := hp
  intro T hT X
  obtain ⟨v, vm₁, ⟨U', l2, c2, s2⟩, hW₁, X', ⟨g', mk, t, L, e1, e2, hq, h1, hL, h2, h3⟩, st⟩ := vx_callVW X hx (C := C) (hh := hh) (bytes := bytes) (maxL := maxL) (ret := ret) ho hl hin hse hcode hy hK (by rw [hT]; exact hcB) hoB hclB hg (hsize.trans hml.symm) (argsL := As) (rest := rest) (fun sig h => hn.trans (hlen sig h)) hstack hW (by rw [hb]; exact hdg)
    (fun vm₁ hW₁ => ⟨hf.1, hf.2, hPc (T.setVm vm₁) hT hW₁⟩)
  dsimp only [Pt.U, Pt.locs, Pt.cells, Pt.slots] at X' e1 e2 h1 h2 h3 st
  subst h1; subst h2; subst h3
  exact ⟨v, (T.setVm vm₁).calling g' mk (Value.ref b :: As).toArray, t, U', L, hT, X', hL, e1, e2, hq, st⟩
section
variable {y : MethodName} {bytes cc : ByteArray} {maxL nL mc ms n index : Nat} {ret : Option FieldType} {ws : List Cond} {rm : Room} {Pc : Array Value → State → Prop} {Qc : Array Value → State → Outcome → State → Prop} {XC : String → State → State → Prop} {free : Addr → Prop} {Ts : List Cond} {own C : String} {b : Addr} {As rest : List Value} {g : JFrame}
theorem vx_runVX {hh : List (Nat × Nat × Nat × Nat)} (S : CallFix p m c cc nL s args Ts own) (hM : vx_Met l y ws rm Pc Qc XC mc ms free) (cw : vx_CVW R s args own C index y bytes maxL ret hh ws rm mc ms n) (hp : PreV s H C b Pc As)
    (hg : g.method = m) (hn : As.length = n) (hsize : g.locals.size = nL) (hstack : g.stack = As.reverse ++ .ref b :: rest) (hW : 2 * g.monitorRoom + (rest.map fun v => v.category).sum ≤ 8) (hdg : decode cc g.pc = .ok (.invokevirtual index, 3)) (hf : cells + mc ≤ R.cells ∧ slots + ms ≤ R.slots) :
    vx_Run p l e R s m args below meth c H locs cells slots mc ms g rest (Qc (Value.ref b :: As).toArray) XC free := by
  obtain ⟨⟨hrc, hrs, hfr, hlo, hws, hcw⟩, hcode, hini, hy, hlen, hl, hin, hse⟩ := cw
  have hK : vx_Back l R p e below s args y 3 8 (PreOf R mc ms Pc) (PostOf Qc mc ms free) (vx_Post XC mc ms free) := vx_backW (hh := hh) (bytes := bytes) (maxL := maxL) (ret := ret) hM hp.1 hrc hrs hfr hlo hws hcw (fun a' U hW => word_at hW (Or.inl (by first | rfl | simp [Cond.onTables, Cond.keeps, Cond.steady])) hini)
  obtain ⟨hx, hb, hml, ho, -⟩ := S
  obtain ⟨-, ⟨cellB, hcB, hoB, hclB⟩, hPc⟩ := hp
  intro T hT X
  rcases vx_callVX X hx (C := C) (hh := hh) (bytes := bytes) (maxL := maxL) (ret := ret) ho hl hin hse hcode hy hK (by rw [hT]; exact hcB) hoB hclB hg (hsize.trans hml.symm) (argsL := As) (rest := rest) (fun sig h => hn.trans (hlen sig h)) hstack hW (by rw [hb]; exact hdg)
    (fun vm₁ hW₁ => ⟨hf.1, hf.2, hPc (T.setVm vm₁) hT hW₁⟩) with ⟨v, vm₁, ⟨U', l2, c2, s2⟩, hW₁, X', ⟨g', mk, t, L, e1, e2, hq, h1, hL, h2, h3⟩, st⟩ | ⟨q, vm₁, ⟨U', l2, c2, s2⟩, hW₁, X', ⟨g', mk, t, L, E, ce, e1, e2, hq, hce, hcv, hcl, h1, hL, h2, h3⟩, st⟩
  · dsimp only [Pt.U, Pt.locs, Pt.cells, Pt.slots] at X' e1 e2 h1 h2 h3 st
    subst h1; subst h2; subst h3
    exact Or.inl ⟨v, (T.setVm vm₁).calling g' mk (Value.ref b :: As).toArray, t, U', L, hT, X', hL, e1, e2, hq, st⟩
  · dsimp only [Pt.U, Pt.locs, Pt.cells, Pt.slots] at X' e1 e2 h1 h2 h3 st hcl
    subst h1; subst h2; subst h3
    exact Or.inr ⟨q, (T.setVm vm₁).calling g' mk (Value.ref b :: As).toArray, t, U', L, E, ce, hT, X', hL, e1, e2, hq, hce, hcv, vx_cls hW₁ hcl, st⟩
theorem vx_runSX {hh : List (Nat × Nat × Nat × Nat)} (S : CallFix p m c cc nL s args Ts own) (hM : vx_Met l y ws rm Pc Qc XC mc ms free) (cw : vx_CSW R s args own index y bytes maxL ret hh ws rm mc ms n) (hp : PreS s H Pc As)
    (hg : g.method = m) (hn : As.length = n) (hsize : g.locals.size = nL) (hstack : g.stack = As.reverse ++ rest) (hW : 2 * g.monitorRoom + (rest.map fun v => v.category).sum ≤ 8) (hdg : decode cc g.pc = .ok (.invokestatic index, 3)) (hf : cells + mc ≤ R.cells ∧ slots + ms ≤ R.slots) :
    vx_Run p l e R s m args below meth c H locs cells slots mc ms g rest (Qc As.toArray) XC free := by
  obtain ⟨⟨hrc, hrs, hfr, hlo, hws, hcw⟩, hcode, hini, hy, hlen, hl, hstt⟩ := cw
  have hK : vx_Back l R p e below s args y 3 8 (PreOf R mc ms Pc) (PostOf Qc mc ms free) (vx_Post XC mc ms free) := vx_backW (hh := hh) (bytes := bytes) (maxL := maxL) (ret := ret) hM hp.1 hrc hrs hfr hlo hws hcw (fun a' U hW => word_at hW (Or.inl (by first | rfl | simp [Cond.onTables, Cond.keeps, Cond.steady])) hini)
  obtain ⟨hx, hb, hml, ho, -⟩ := S
  intro T hT X
  rcases vx_callSX X hx (hh := hh) (bytes := bytes) (maxL := maxL) (ret := ret) ho hl hstt hini hcode hy hK hg (hsize.trans hml.symm) (argsL := As) (rest := rest) (fun sig h => hn.trans (hlen sig h)) hstack hW (by rw [hb]; exact hdg)
    (fun vm₁ hW₁ => ⟨hf.1, hf.2, hp.2 (T.setVm vm₁) hT hW₁⟩) with ⟨v, vm₁, ⟨U', l2, c2, s2⟩, hW₁, X', ⟨g', mk, t, L, e1, e2, hq, h1, hL, h2, h3⟩, st⟩ | ⟨q, vm₁, ⟨U', l2, c2, s2⟩, hW₁, X', ⟨g', mk, t, L, E, ce, e1, e2, hq, hce, hcv, hcl, h1, hL, h2, h3⟩, st⟩
  · dsimp only [Pt.U, Pt.locs, Pt.cells, Pt.slots] at X' e1 e2 h1 h2 h3 st
    subst h1; subst h2; subst h3
    exact Or.inl ⟨v, (T.setVm vm₁).calling g' mk As.toArray, t, U', L, hT, X', hL, e1, e2, hq, st⟩
  · dsimp only [Pt.U, Pt.locs, Pt.cells, Pt.slots] at X' e1 e2 h1 h2 h3 st hcl
    subst h1; subst h2; subst h3
    exact Or.inr ⟨q, (T.setVm vm₁).calling g' mk As.toArray, t, U', L, E, ce, hT, X', hL, e1, e2, hq, hce, hcv, vx_cls hW₁ hcl, st⟩
end
end VXH
theorem vx_ofWH {l : Launch} {y : MethodName} {ws ws' : List Cond} {rm : Room} {Pc : Array Value → State → Prop} {Qc : Array Value → State → Outcome → State → Prop} {XC : String → State → State → Prop} {mc ms : Nat} {free : Addr → Prop} {cc : ByteArray} {maxL : Nat} {ret : Option FieldType} {hh : List (Nat × Nat × Nat × Nat)}
    (hy : plainName y.cls = true) (hw : ws = Cond.codeWith y cc maxL ret hh :: ws')
    (body : ∀ p e s m args below meth c s₁, BodyLoose p l y (headSpec ws rm) cc maxL ret e s m args below meth c s₁ → c.maxLocals = maxL → Pc args s →
      W p l e (headSpec ws rm).room s m args below meth c s.heap [] 0 0 (vx_MQ below Qc XC args s mc ms free) (entryFrame m args maxL)) : vx_Met l y ws rm Pc Qc XC mc ms free := by
  refine MetFree.of_bodyS (code := cc) (maxLocals := maxL) (ret := ret) hy ?_ ?_
  · intro args s m h hn
    obtain ⟨m9, meth, c, hn9, h1, h2, h3, h4, -, h5, h6, -⟩ := Cond.codeWith_spec (atoms_spec (ws := ws) h _ (by rw [hw]; exact List.mem_cons_self))
    cases hn.symm.trans hn9
    exact ⟨meth, c, h1, h2, h3, h4, h5, h6⟩
  · intro p e s m args below meth c s₁ B hml hP _
    have hh0 : s₁.heap = s.heap := by rw [B.state]; rfl
    obtain ⟨t, a1, o, b1, b2, b3⟩ := body p e s m args below meth c s₁ B hml hP s₁ hh0 (Stand.of_body B)
    exact ⟨t, o, a1, b1, b2, b3⟩
/-! ===== END ===== -/

/-! ===== BEGIN printed: names, fields, word lists, decode rows ===== -/
def RX0 : String := "CrossingPosts$Guard"
def TX0 : u_T := fun k => match k with
  | 0 => ("CrossingPosts$Guard", "home", "I", false)
  | 1 => ("CrossingPosts$Guard", "reach", "I", false)
  | 2 => ("CrossingPosts$Guard", "own", "I", false)
  | 3 => ("CrossingPosts$Guard", "step", "I", false)
  | 4 => ("CrossingPosts$Guard", "work", "I", false)
  | 5 => ("CrossingPosts$Guard", "earnings", "I", false)
  | 6 => ("CrossingPosts$Guard", "wellFrom", "I", false)
  | 7 => ("CrossingPosts$Guard", "timesAtOwn", "I", false)
  | _ => ("CrossingPosts$Guard", "timesAtOthers", "I", false)
def tyX0 : Nat → FieldType := fun k => match k with
  | 0 => .int
  | 1 => .int
  | 2 => .int
  | 3 => .int
  | 4 => .int
  | 5 => .int
  | 6 => .int
  | 7 => .int
  | _ => .int
abbrev wsX00 : List Cond := u_ws RX0 TX0 9
theorem nmX0 : ∀ a, a < 9 → ∀ b, b < 9 → a ≠ b → (TX0 a).2.1 ≠ (TX0 b).2.1 := by decide +kernel
theorem tyX0_ok : ∀ k, k < 9 → parseFieldDescriptor (TX0 k).2.2.1 = some (tyX0 k) := by decide +kernel
abbrev cX0_init : ByteArray := prog_2_method_1_code
def yX0_init : MethodName := ⟨RX0, "<init>", "()V"⟩
abbrev cX0_begin : ByteArray := prog_2_method_2_code
def yX0_begin : MethodName := ⟨RX0, "begin", "(III)V"⟩
abbrev cX0_copyFrom : ByteArray := prog_2_method_3_code
def yX0_copyFrom : MethodName := ⟨RX0, "copyFrom", "(LCrossingPosts$Guard;)V"⟩
abbrev cX0_isSickOn : ByteArray := prog_2_method_4_code
def yX0_isSickOn : MethodName := ⟨RX0, "isSickOn", "(I)Z"⟩
abbrev cX0_distanceFrom : ByteArray := prog_2_method_5_code
def yX0_distanceFrom : MethodName := ⟨RX0, "distanceFrom", "(I)I"⟩
abbrev cX0_standAt : ByteArray := prog_2_method_6_code
def yX0_standAt : MethodName := ⟨RX0, "standAt", "(II)V"⟩
abbrev cX0_about : ByteArray := prog_2_method_7_code
def yX0_about : MethodName := ⟨RX0, "about", "(II)I"⟩
def RX1 : String := "CrossingPosts$Orders"
def TX1 : u_T := fun k => match k with
  | 0 => ("CrossingPosts$Orders", "bytes", "[I", true)
  | 1 => ("CrossingPosts$Orders", "length", "I", false)
  | 2 => ("CrossingPosts$Orders", "kinds", "[I", true)
  | 3 => ("CrossingPosts$Orders", "targets", "[I", true)
  | 4 => ("CrossingPosts$Orders", "days", "[I", true)
  | 5 => ("CrossingPosts$Orders", "count", "I", false)
  | 6 => ("CrossingPosts$Orders", "at", "I", false)
  | _ => ("CrossingPosts$Orders", "number", "I", false)
def tyX1 : Nat → FieldType := fun k => match k with
  | 0 => .array .int
  | 1 => .int
  | 2 => .array .int
  | 3 => .array .int
  | 4 => .array .int
  | 5 => .int
  | 6 => .int
  | _ => .int
abbrev wsX10 : List Cond := u_ws RX1 TX1 8
theorem nmX1 : ∀ a, a < 8 → ∀ b, b < 8 → a ≠ b → (TX1 a).2.1 ≠ (TX1 b).2.1 := by decide +kernel
theorem tyX1_ok : ∀ k, k < 8 → parseFieldDescriptor (TX1 k).2.2.1 = some (tyX1 k) := by decide +kernel
abbrev cX1_init : ByteArray := prog_3_method_1_code
def yX1_init : MethodName := ⟨RX1, "<init>", "()V"⟩
def RX2 : String := "CrossingPosts$Post"
def TX2 : u_T := fun k => match k with
  | 0 => ("CrossingPosts$Post", "place", "I", false)
  | 1 => ("CrossingPosts$Post", "needs", "I", false)
  | 2 => ("CrossingPosts$Post", "timesOpen", "I", false)
  | 3 => ("CrossingPosts$Post", "complaints", "I", false)
  | 4 => ("CrossingPosts$Post", "latestOpen", "I", false)
  | 5 => ("CrossingPosts$Post", "latestComplaint", "I", false)
  | 6 => ("CrossingPosts$Post", "priorityEnd", "I", false)
  | 7 => ("CrossingPosts$Post", "guard", "I", false)
  | _ => ("CrossingPosts$Post", "reason", "I", false)
def tyX2 : Nat → FieldType := fun k => match k with
  | 0 => .int
  | 1 => .int
  | 2 => .int
  | 3 => .int
  | 4 => .int
  | 5 => .int
  | 6 => .int
  | 7 => .int
  | _ => .int
abbrev wsX20 : List Cond := u_ws RX2 TX2 9
theorem nmX2 : ∀ a, a < 9 → ∀ b, b < 9 → a ≠ b → (TX2 a).2.1 ≠ (TX2 b).2.1 := by decide +kernel
theorem tyX2_ok : ∀ k, k < 9 → parseFieldDescriptor (TX2 k).2.2.1 = some (tyX2 k) := by decide +kernel
abbrev cX2_init : ByteArray := prog_4_method_1_code
def yX2_init : MethodName := ⟨RX2, "<init>", "()V"⟩
abbrev cX2_begin : ByteArray := prog_4_method_2_code
def yX2_begin : MethodName := ⟨RX2, "begin", "(II)V"⟩
abbrev cX2_copyFrom : ByteArray := prog_4_method_3_code
def yX2_copyFrom : MethodName := ⟨RX2, "copyFrom", "(LCrossingPosts$Post;)V"⟩
abbrev cX2_hasPriority : ByteArray := prog_4_method_4_code
def yX2_hasPriority : MethodName := ⟨RX2, "hasPriority", "(I)Z"⟩
abbrev cX2_allowsComplaint : ByteArray := prog_4_method_5_code
def yX2_allowsComplaint : MethodName := ⟨RX2, "allowsComplaint", "(I)Z"⟩
abbrev cX2_fileComplaint : ByteArray := prog_4_method_6_code
def yX2_fileComplaint : MethodName := ⟨RX2, "fileComplaint", "(I)V"⟩
abbrev cX2_note : ByteArray := prog_4_method_7_code
def yX2_note : MethodName := ⟨RX2, "note", "(III)V"⟩
def RX3 : String := "CrossingPosts$Replacements"
def TX3 : u_T := fun k => match k with
  | 0 => ("CrossingPosts$Replacements", "places", "[I", true)
  | 1 => ("CrossingPosts$Replacements", "placeCount", "I", false)
  | 2 => ("CrossingPosts$Replacements", "sums", "[I", true)
  | 3 => ("CrossingPosts$Replacements", "leastOpen", "I", false)
  | _ => ("CrossingPosts$Replacements", "leastSum", "I", false)
def tyX3 : Nat → FieldType := fun k => match k with
  | 0 => .array .int
  | 1 => .int
  | 2 => .array .int
  | 3 => .int
  | _ => .int
abbrev wsX30 : List Cond := u_ws RX3 TX3 5
theorem nmX3 : ∀ a, a < 5 → ∀ b, b < 5 → a ≠ b → (TX3 a).2.1 ≠ (TX3 b).2.1 := by decide +kernel
theorem tyX3_ok : ∀ k, k < 5 → parseFieldDescriptor (TX3 k).2.2.1 = some (tyX3 k) := by decide +kernel
abbrev cX3_init : ByteArray := prog_5_method_1_code
def yX3_init : MethodName := ⟨RX3, "<init>", "()V"⟩
abbrev cX3_find : ByteArray := prog_5_method_2_code
def yX3_find : MethodName := ⟨RX3, "find", "(LCrossingPosts$State;LCrossingPosts$Roster;)V"⟩
abbrev cX3_collectPlaces : ByteArray := prog_5_method_3_code
def yX3_collectPlaces : MethodName := ⟨RX3, "collectPlaces", "(LCrossingPosts$State;LCrossingPosts$Roster;)V"⟩
abbrev cX3_addGuardToWays : ByteArray := prog_5_method_4_code
def yX3_addGuardToWays : MethodName := ⟨RX3, "addGuardToWays", "(LCrossingPosts$Guard;)V"⟩
abbrev cX3_choose : ByteArray := prog_5_method_5_code
def yX3_choose : MethodName := ⟨RX3, "choose", "()V"⟩
def RX4 : String := "CrossingPosts$Roster"
def TX4 : u_T := fun k => match k with
  | 0 => ("CrossingPosts$Roster", "guardAt", "[I", true)
  | 1 => ("CrossingPosts$Roster", "reasons", "[I", true)
  | 2 => ("CrossingPosts$Roster", "neededPosts", "I", false)
  | 3 => ("CrossingPosts$Roster", "openPosts", "I", false)
  | 4 => ("CrossingPosts$Roster", "wellGuards", "I", false)
  | _ => ("CrossingPosts$Roster", "freeGuards", "I", false)
def tyX4 : Nat → FieldType := fun k => match k with
  | 0 => .array .int
  | 1 => .array .int
  | 2 => .int
  | 3 => .int
  | 4 => .int
  | _ => .int
abbrev wsX40 : List Cond := u_ws RX4 TX4 6
theorem nmX4 : ∀ a, a < 6 → ∀ b, b < 6 → a ≠ b → (TX4 a).2.1 ≠ (TX4 b).2.1 := by decide +kernel
theorem tyX4_ok : ∀ k, k < 6 → parseFieldDescriptor (TX4 k).2.2.1 = some (tyX4 k) := by decide +kernel
abbrev cX4_init : ByteArray := prog_6_method_1_code
def yX4_init : MethodName := ⟨RX4, "<init>", "()V"⟩
abbrev cX4_draw : ByteArray := prog_6_method_2_code
def yX4_draw : MethodName := ⟨RX4, "draw", "(LCrossingPosts$State;II)V"⟩
abbrev cX4_drawOwn : ByteArray := prog_6_method_3_code
def yX4_drawOwn : MethodName := ⟨RX4, "drawOwn", "(LCrossingPosts$State;II)V"⟩
abbrev cX4_place : ByteArray := prog_6_method_4_code
def yX4_place : MethodName := ⟨RX4, "place", "(II)V"⟩
abbrev cX4_placeOrLeaveOpen : ByteArray := prog_6_method_5_code
def yX4_placeOrLeaveOpen : MethodName := ⟨RX4, "placeOrLeaveOpen", "(II)V"⟩
abbrev cX4_lacksGuard : ByteArray := prog_6_method_6_code
def yX4_lacksGuard : MethodName := ⟨RX4, "lacksGuard", "(I)Z"⟩
abbrev cX4_nearest : ByteArray := prog_6_method_7_code
def yX4_nearest : MethodName := ⟨RX4, "nearest", "(LCrossingPosts$State;I)I"⟩
abbrev cX4_reasonNow : ByteArray := prog_6_method_8_code
def yX4_reasonNow : MethodName := ⟨RX4, "reasonNow", "()I"⟩
def RX5 : String := "CrossingPosts$State"
def TX5 : u_T := fun k => match k with
  | 0 => ("CrossingPosts$State", "firstDays", "[I", true)
  | 1 => ("CrossingPosts$State", "lastDays", "[I", true)
  | 2 => ("CrossingPosts$State", "holidayCount", "I", false)
  | 3 => ("CrossingPosts$State", "posts", "[LCrossingPosts$Post;", true)
  | 4 => ("CrossingPosts$State", "postCount", "I", false)
  | 5 => ("CrossingPosts$State", "guards", "[LCrossingPosts$Guard;", true)
  | 6 => ("CrossingPosts$State", "guardCount", "I", false)
  | 7 => ("CrossingPosts$State", "next", "I", false)
  | 8 => ("CrossingPosts$State", "schoolSessions", "I", false)
  | _ => ("CrossingPosts$State", "timesNeeded", "I", false)
def tyX5 : Nat → FieldType := fun k => match k with
  | 0 => .array .int
  | 1 => .array .int
  | 2 => .int
  | 3 => .array (.object "CrossingPosts$Post")
  | 4 => .int
  | 5 => .array (.object "CrossingPosts$Guard")
  | 6 => .int
  | 7 => .int
  | 8 => .int
  | _ => .int
abbrev wsX50 : List Cond := u_ws RX5 TX5 10
theorem nmX5 : ∀ a, a < 10 → ∀ b, b < 10 → a ≠ b → (TX5 a).2.1 ≠ (TX5 b).2.1 := by decide +kernel
theorem tyX5_ok : ∀ k, k < 10 → parseFieldDescriptor (TX5 k).2.2.1 = some (tyX5 k) := by decide +kernel
abbrev cX5_init : ByteArray := prog_7_method_1_code
def yX5_init : MethodName := ⟨RX5, "<init>", "()V"⟩
abbrev cX5_copyFrom : ByteArray := prog_7_method_2_code
def yX5_copyFrom : MethodName := ⟨RX5, "copyFrom", "(LCrossingPosts$State;)V"⟩
abbrev cX5_hasPost : ByteArray := prog_7_method_3_code
def yX5_hasPost : MethodName := ⟨RX5, "hasPost", "(I)Z"⟩
abbrev cX5_hasGuard : ByteArray := prog_7_method_4_code
def yX5_hasGuard : MethodName := ⟨RX5, "hasGuard", "(I)Z"⟩
abbrev cX5_newHoliday : ByteArray := prog_7_method_5_code
def yX5_newHoliday : MethodName := ⟨RX5, "newHoliday", "(II)I"⟩
abbrev cX5_newPost : ByteArray := prog_7_method_6_code
def yX5_newPost : MethodName := ⟨RX5, "newPost", "(II)I"⟩
abbrev cX5_newGuard : ByteArray := prog_7_method_7_code
def yX5_newGuard : MethodName := ⟨RX5, "newGuard", "(III)I"⟩
abbrev cX5_ownerOf : ByteArray := prog_7_method_8_code
def yX5_ownerOf : MethodName := ⟨RX5, "ownerOf", "(I)I"⟩
abbrev cX5_nextDay : ByteArray := prog_7_method_9_code
def yX5_nextDay : MethodName := ⟨RX5, "nextDay", "()I"⟩
abbrev cX5_reportSick : ByteArray := prog_7_method_10_code
def yX5_reportSick : MethodName := ⟨RX5, "reportSick", "(II)I"⟩
abbrev cX5_allowsComplaint : ByteArray := prog_7_method_11_code
def yX5_allowsComplaint : MethodName := ⟨RX5, "allowsComplaint", "(I)Z"⟩
abbrev cX5_fileComplaint : ByteArray := prog_7_method_12_code
def yX5_fileComplaint : MethodName := ⟨RX5, "fileComplaint", "(I)I"⟩
abbrev cX5_isSchoolDay : ByteArray := prog_7_method_13_code
def yX5_isSchoolDay : MethodName := ⟨RX5, "isSchoolDay", "(I)Z"⟩
abbrev cX5_neededPosts : ByteArray := prog_7_method_14_code
def yX5_neededPosts : MethodName := ⟨RX5, "neededPosts", "(II)I"⟩
abbrev cX5_wellGuards : ByteArray := prog_7_method_15_code
def yX5_wellGuards : MethodName := ⟨RX5, "wellGuards", "(I)I"⟩
abbrev cX5_takeNext : ByteArray := prog_7_method_16_code
def yX5_takeNext : MethodName := ⟨RX5, "takeNext", "(LCrossingPosts$Roster;)I"⟩
abbrev cX5_allowsDays : ByteArray := prog_7_method_17_code
def yX5_allowsDays : MethodName := ⟨RX5, "allowsDays", "(I)Z"⟩
abbrev cX5_takeDays : ByteArray := prog_7_method_18_code
def yX5_takeDays : MethodName := ⟨RX5, "takeDays", "(ILCrossingPosts$Roster;)I"⟩
abbrev cX5_timesOpen : ByteArray := prog_7_method_19_code
def yX5_timesOpen : MethodName := ⟨RX5, "timesOpen", "()I"⟩
abbrev cX5_complaints : ByteArray := prog_7_method_20_code
def yX5_complaints : MethodName := ⟨RX5, "complaints", "()I"⟩
abbrev cX5_earnings : ByteArray := prog_7_method_21_code
def yX5_earnings : MethodName := ⟨RX5, "earnings", "()I"⟩
abbrev cX5_aboutPost : ByteArray := prog_7_method_22_code
def yX5_aboutPost : MethodName := ⟨RX5, "aboutPost", "(II)I"⟩
abbrev cX5_about : ByteArray := prog_7_method_23_code
def yX5_about : MethodName := ⟨RX5, "about", "(I)I"⟩
def RX6 : String := "CrossingPosts"
def TX6 : u_T := fun k => match k with
  | 0 => ("CrossingPosts", "state", "LCrossingPosts$State;", true)
  | 1 => ("CrossingPosts", "trial", "LCrossingPosts$State;", true)
  | 2 => ("CrossingPosts", "saved", "[LCrossingPosts$State;", true)
  | 3 => ("CrossingPosts", "savedCount", "I", false)
  | 4 => ("CrossingPosts", "roster", "LCrossingPosts$Roster;", true)
  | 5 => ("CrossingPosts", "replacements", "LCrossingPosts$Replacements;", true)
  | _ => ("CrossingPosts", "orders", "LCrossingPosts$Orders;", true)
def tyX6 : Nat → FieldType := fun k => match k with
  | 0 => .object "CrossingPosts$State"
  | 1 => .object "CrossingPosts$State"
  | 2 => .array (.object "CrossingPosts$State")
  | 3 => .int
  | 4 => .object "CrossingPosts$Roster"
  | 5 => .object "CrossingPosts$Replacements"
  | _ => .object "CrossingPosts$Orders"
abbrev wsX60 : List Cond := u_ws RX6 TX6 7
theorem nmX6 : ∀ a, a < 7 → ∀ b, b < 7 → a ≠ b → (TX6 a).2.1 ≠ (TX6 b).2.1 := by decide +kernel
theorem tyX6_ok : ∀ k, k < 7 → parseFieldDescriptor (TX6 k).2.2.1 = some (tyX6 k) := by decide +kernel
abbrev cX6_init : ByteArray := prog_1_method_1_code
def yX6_init : MethodName := ⟨RX6, "<init>", "()V"⟩
abbrev cX6_addHoliday : ByteArray := prog_1_method_2_code
def yX6_addHoliday : MethodName := ⟨RX6, "addHoliday", "(II)I"⟩
abbrev cX6_addPost : ByteArray := prog_1_method_3_code
def yX6_addPost : MethodName := ⟨RX6, "addPost", "(II)I"⟩
abbrev cX6_setNeeds : ByteArray := prog_1_method_4_code
def yX6_setNeeds : MethodName := ⟨RX6, "setNeeds", "(II)I"⟩
abbrev cX6_addGuard : ByteArray := prog_1_method_5_code
def yX6_addGuard : MethodName := ⟨RX6, "addGuard", "(III)I"⟩
abbrev cX6_setPost : ByteArray := prog_1_method_6_code
def yX6_setPost : MethodName := ⟨RX6, "setPost", "(II)I"⟩
abbrev cX6_sick : ByteArray := prog_1_method_7_code
def yX6_sick : MethodName := ⟨RX6, "sick", "(II)I"⟩
abbrev cX6_complain : ByteArray := prog_1_method_8_code
def yX6_complain : MethodName := ⟨RX6, "complain", "(I)I"⟩
abbrev cX6_step : ByteArray := prog_1_method_9_code
def yX6_step : MethodName := ⟨RX6, "step", "()I"⟩
abbrev cX6_pass : ByteArray := prog_1_method_10_code
def yX6_pass : MethodName := ⟨RX6, "pass", "(I)I"⟩
abbrev cX6_post : ByteArray := prog_1_method_11_code
def yX6_post : MethodName := ⟨RX6, "post", "(II)I"⟩
abbrev cX6_guard : ByteArray := prog_1_method_12_code
def yX6_guard : MethodName := ⟨RX6, "guard", "(II)I"⟩
abbrev cX6_value : ByteArray := prog_1_method_13_code
def yX6_value : MethodName := ⟨RX6, "value", "(I)I"⟩
abbrev cX6_needed : ByteArray := prog_1_method_15_code
def yX6_needed : MethodName := ⟨RX6, "needed", "(II)I"⟩
abbrev cX6_open : ByteArray := prog_1_method_16_code
def yX6_open : MethodName := ⟨RX6, "open", "(II)I"⟩
abbrev cX6_standing : ByteArray := prog_1_method_17_code
def yX6_standing : MethodName := ⟨RX6, "standing", "(III)I"⟩
abbrev cX6_best : ByteArray := prog_1_method_18_code
def yX6_best : MethodName := ⟨RX6, "best", "(III)I"⟩
abbrev cX6_missed : ByteArray := prog_1_method_19_code
def yX6_missed : MethodName := ⟨RX6, "missed", "(II)I"⟩
abbrev cX6_daysToOpen : ByteArray := prog_1_method_20_code
def yX6_daysToOpen : MethodName := ⟨RX6, "daysToOpen", "()I"⟩
abbrev cX6_bestHome : ByteArray := prog_1_method_21_code
def yX6_bestHome : MethodName := ⟨RX6, "bestHome", "(I)I"⟩
abbrev cX6_filled : ByteArray := prog_1_method_22_code
def yX6_filled : MethodName := ⟨RX6, "filled", "()D"⟩
abbrev cX6_undo : ByteArray := prog_1_method_26_code
def yX6_undo : MethodName := ⟨RX6, "undo", "()I"⟩
abbrev cX6_digest : ByteArray := prog_1_method_27_code
def yX6_digest : MethodName := ⟨RX6, "digest", "()J"⟩
abbrev cX6_mixed : ByteArray := prog_1_method_28_code
def yX6_mixed : MethodName := ⟨RX6, "mixed", "(JI)J"⟩
abbrev cX6_isWithin : ByteArray := prog_1_method_29_code
def yX6_isWithin : MethodName := ⟨RX6, "isWithin", "(III)Z"⟩
abbrev cX6_isDay : ByteArray := prog_1_method_30_code
def yX6_isDay : MethodName := ⟨RX6, "isDay", "(I)Z"⟩
abbrev cX6_isSession : ByteArray := prog_1_method_31_code
def yX6_isSession : MethodName := ⟨RX6, "isSession", "(I)Z"⟩
abbrev cX6_isPlace : ByteArray := prog_1_method_32_code
def yX6_isPlace : MethodName := ⟨RX6, "isPlace", "(I)Z"⟩
abbrev cX6_isIn : ByteArray := prog_1_method_33_code
def yX6_isIn : MethodName := ⟨RX6, "isIn", "(II)Z"⟩
abbrev cX6_save : ByteArray := prog_1_method_34_code
def yX6_save : MethodName := ⟨RX6, "save", "()V"⟩
abbrev cX6_openOnDay : ByteArray := prog_1_method_35_code
def yX6_openOnDay : MethodName := ⟨RX6, "openOnDay", "(LCrossingPosts$State;I)I"⟩
def RX7 : String := "CrossingPostsModel"
def TX7 : u_T := fun k => match k with
  | _ => ("", "", "", false)
def tyX7 : Nat → FieldType := fun k => match k with
  | _ => .int
abbrev wsX70 : List Cond := u_ws RX7 TX7 0
theorem nmX7 : ∀ a, a < 0 → ∀ b, b < 0 → a ≠ b → (TX7 a).2.1 ≠ (TX7 b).2.1 := by decide +kernel
theorem tyX7_ok : ∀ k, k < 0 → parseFieldDescriptor (TX7 k).2.2.1 = some (tyX7 k) := by decide +kernel
def RJx145de : String := "java/io/Serializable"
def TJx145de : u_T := fun k => match k with
  | _ => ("", "", "", false)
def tyJx145de : Nat → FieldType := fun k => match k with
  | _ => .int
abbrev wsJx145de0 : List Cond := u_ws RJx145de TJx145de 0
theorem nmJx145de : ∀ a, a < 0 → ∀ b, b < 0 → a ≠ b → (TJx145de a).2.1 ≠ (TJx145de b).2.1 := by decide +kernel
theorem tyJx145de_ok : ∀ k, k < 0 → parseFieldDescriptor (TJx145de k).2.2.1 = some (tyJx145de k) := by decide +kernel
def RJ6 : String := "java/lang/Integer"
def TJ6 : u_T := fun k => match k with
  | _ => ("", "", "", false)
def tyJ6 : Nat → FieldType := fun k => match k with
  | _ => .int
abbrev wsJ60 : List Cond := u_ws RJ6 TJ6 0
theorem nmJ6 : ∀ a, a < 0 → ∀ b, b < 0 → a ≠ b → (TJ6 a).2.1 ≠ (TJ6 b).2.1 := by decide +kernel
theorem tyJ6_ok : ∀ k, k < 0 → parseFieldDescriptor (TJ6 k).2.2.1 = some (tyJ6 k) := by decide +kernel
abbrev cJ6_bitCount_0f7a4 : ByteArray := prog_14_method_49_code
def yJ6_bitCount_0f7a4 : MethodName := ⟨RJ6, "bitCount", "(I)I"⟩
def RJ9 : String := "java/lang/Math"
def TJ9 : u_T := fun k => match k with
  | _ => ("", "", "", false)
def tyJ9 : Nat → FieldType := fun k => match k with
  | _ => .int
abbrev wsJ90 : List Cond := u_ws RJ9 TJ9 0
theorem nmJ9 : ∀ a, a < 0 → ∀ b, b < 0 → a ≠ b → (TJ9 a).2.1 ≠ (TJ9 b).2.1 := by decide +kernel
theorem tyJ9_ok : ∀ k, k < 0 → parseFieldDescriptor (TJ9 k).2.2.1 = some (tyJ9 k) := by decide +kernel
abbrev cJ9_min_7cf53 : ByteArray := prog_15_method_69_code
def yJ9_min_7cf53 : MethodName := ⟨RJ9, "min", "(II)I"⟩
def RJ0 : String := "java/lang/String"
def TJ0 : u_T := fun k => match k with
  | _ => ("", "", "", false)
def tyJ0 : Nat → FieldType := fun k => match k with
  | _ => .int
abbrev wsJ00 : List Cond := u_ws RJ0 TJ0 0
theorem nmJ0 : ∀ a, a < 0 → ∀ b, b < 0 → a ≠ b → (TJ0 a).2.1 ≠ (TJ0 b).2.1 := by decide +kernel
theorem tyJ0_ok : ∀ k, k < 0 → parseFieldDescriptor (TJ0 k).2.2.1 = some (tyJ0 k) := by decide +kernel
def RJ10 : String := "java/lang/System"
def TJ10 : u_T := fun k => match k with
  | _ => ("", "", "", false)
def tyJ10 : Nat → FieldType := fun k => match k with
  | _ => .int
abbrev wsJ100 : List Cond := u_ws RJ10 TJ10 0
theorem nmJ10 : ∀ a, a < 0 → ∀ b, b < 0 → a ≠ b → (TJ10 a).2.1 ≠ (TJ10 b).2.1 := by decide +kernel
theorem tyJ10_ok : ∀ k, k < 0 → parseFieldDescriptor (TJ10 k).2.2.1 = some (tyJ10 k) := by decide +kernel
def RJ7 : String := "java/util/Arrays"
def TJ7 : u_T := fun k => match k with
  | _ => ("", "", "", false)
def tyJ7 : Nat → FieldType := fun k => match k with
  | _ => .int
abbrev wsJ70 : List Cond := u_ws RJ7 TJ7 0
theorem nmJ7 : ∀ a, a < 0 → ∀ b, b < 0 → a ≠ b → (TJ7 a).2.1 ≠ (TJ7 b).2.1 := by decide +kernel
theorem tyJ7_ok : ∀ k, k < 0 → parseFieldDescriptor (TJ7 k).2.2.1 = some (tyJ7 k) := by decide +kernel
abbrev cJ7_fill_53178 : ByteArray := prog_20_method_103_code
def yJ7_fill_53178 : MethodName := ⟨RJ7, "fill", "([II)V"⟩
def RL : String := "CrossingPostsLaw"
abbrev cL_cell : ByteArray := method_2_code
def yL_cell : MethodName := ⟨RL, "cell", "([II)I"⟩
abbrev cL_low : ByteArray := method_3_code
def yL_low : MethodName := ⟨RL, "low", "(II)I"⟩
abbrev cL_many : ByteArray := method_4_code
def yL_many : MethodName := ⟨RL, "many", "(I)I"⟩
abbrev cL_addsUp : ByteArray := method_5_code
def yL_addsUp : MethodName := ⟨RL, "addsUp", "(LCrossingPosts;)Z"⟩
abbrev cL_isLooked : ByteArray := method_6_code
def yL_isLooked : MethodName := ⟨RL, "isLooked", "(LCrossingPosts;II)Z"⟩
abbrev cL_isStepped : ByteArray := method_7_code
def yL_isStepped : MethodName := ⟨RL, "isStepped", "(LCrossingPosts;)Z"⟩
abbrev cL_act : ByteArray := method_8_code
def yL_act : MethodName := ⟨RL, "act", "(LCrossingPosts;I[I)V"⟩
abbrev cL_law : ByteArray := code
def yL_law : MethodName := ⟨RL, "law", "([I)Z"⟩
abbrev vwCl : List vw_C := [(RX0, TX0, 9), (RX1, TX1, 8), (RX2, TX2, 9), (RX3, TX3, 5), (RX4, TX4, 6), (RX5, TX5, 10), (RX6, TX6, 7), (RX0, TX0, 9)]
end
section
/-! AN ABSTRACT MACHINE: the bytecode of the claim's methods, run over a heap of typed functions whose references are plain numbers (the order of making). -/
abbrev MD : Type := MethodName × ByteArray × Nat × Option FieldType × Nat × Nat × List (Nat × Nat × Nat × Nat)
def mN (m : MD) : MethodName := m.1
def mB (m : MD) : ByteArray := m.2.1
def mM (m : MD) : Nat := m.2.2.1
def mR (m : MD) : Option FieldType := m.2.2.2.1
def mC (m : MD) : Nat := m.2.2.2.2.1
def mV (m : MD) : Nat := m.2.2.2.2.2.1
def mH (m : MD) : List (Nat × Nat × Nat × Nat) := m.2.2.2.2.2.2
/-- the heap: kinds, int fields, reference fields, lengths, int rows, reference rows, long rows, how many things, cells and slots used -/
abbrev AH : Type := (Nat → Nat) × (Nat → Nat → Int32) × (Nat → Nat → Option Nat) × (Nat → Nat) × (Nat → Nat → Int32) × (Nat → Nat → Option Nat) × (Nat → Nat → Int64) × Nat × Nat × Nat
def hK (h : AH) : Nat → Nat := h.1
def hI (h : AH) : Nat → Nat → Int32 := h.2.1
def hR (h : AH) : Nat → Nat → Option Nat := h.2.2.1
def hN (h : AH) : Nat → Nat := h.2.2.2.1
def hA (h : AH) : Nat → Nat → Int32 := h.2.2.2.2.1
def hQ (h : AH) : Nat → Nat → Option Nat := h.2.2.2.2.2.1
def hL (h : AH) : Nat → Nat → Int64 := h.2.2.2.2.2.2.1
def hn (h : AH) : Nat := h.2.2.2.2.2.2.2.1
def hc (h : AH) : Nat := h.2.2.2.2.2.2.2.2.1
def hs (h : AH) : Nat := h.2.2.2.2.2.2.2.2.2
def u2 {α : Type} (f : Nat → Nat → α) (i j : Nat) (v : α) : Nat → Nat → α := fun a b => if a = i ∧ b = j then v else f a b
def sI (h : AH) (F i : Nat) (v : Int32) : AH := (hK h, u2 (hI h) F i v, hR h, hN h, hA h, hQ h, hL h, hn h, hc h, hs h)
def sR (h : AH) (F i j : Nat) : AH := (hK h, hI h, u2 (hR h) F i (some j), hN h, hA h, hQ h, hL h, hn h, hc h, hs h)
def sA (h : AH) (a j : Nat) (v : Int32) : AH := (hK h, hI h, hR h, hN h, u2 (hA h) a j v, hQ h, hL h, hn h, hc h, hs h)
def sQ (h : AH) (a j v : Nat) : AH := (hK h, hI h, hR h, hN h, hA h, u2 (hQ h) a j (some v), hL h, hn h, hc h, hs h)
def sL (h : AH) (a j : Nat) (v : Int64) : AH := (hK h, hI h, hR h, hN h, hA h, hQ h, u2 (hL h) a j v, hn h, hc h, hs h)
def cpA (h : AH) (src sp dst dp n : Nat) : AH := (hK h, hI h, hR h, hN h, fun a j => if a = dst then va_cpy (hA h src) (hA h dst) sp dp n j else hA h a j, hQ h, hL h, hn h, hc h, hs h)
def nw (h : AH) (k len sl : Nat) : AH := (fun i => if i = hn h then k else hK h i, fun F i => if i = hn h then 0 else hI h F i, fun F i => if i = hn h then none else hR h F i, fun i => if i = hn h then len else hN h i, fun a j => if a = hn h then 0 else hA h a j, fun a j => if a = hn h then none else hQ h a j, fun a j => if a = hn h then 0 else hL h a j, hn h + 1, hc h + 1, hs h + sl)
/-- an exception is made: room alone -/
def bump (h : AH) : AH := (hK h, hI h, hR h, hN h, hA h, hQ h, hL h, hn h, hc h + 1, hs h + 6)
abbrev Res : Type := (Option Value × AH) ⊕ (String × AH)
def rH (r : Res) : AH := match r with
  | .inl q => q.2
  | .inr q => q.2
/-- what an instruction does: go on; end with a value; call; throw -/
abbrev Act : Type := (Nat × List Value × List Value × AH) ⊕ ((Option Value × AH) ⊕ ((MD × List Value × List Value) ⊕ (String × AH)))
/-- fields of each class -/
def cN (k : Nat) : Nat := [9, 8, 9, 5, 6, 10, 7, 9].getD k 0
def cTy (k : Nat) : Nat → FieldType := match k with
  | 0 => tyX0
  | 1 => tyX1
  | 2 => tyX2
  | 3 => tyX3
  | 4 => tyX4
  | 5 => tyX5
  | 6 => tyX6
  | _ => tyX0
def cT (k : Nat) : u_T := match k with
  | 0 => TX0
  | 1 => TX1
  | 2 => TX2
  | 3 => TX3
  | 4 => TX4
  | 5 => TX5
  | 6 => TX6
  | _ => TX0
def cR (k : Nat) : String := match k with
  | 0 => RX0
  | 1 => RX1
  | 2 => RX2
  | 3 => RX3
  | 4 => RX4
  | 5 => RX5
  | 6 => RX6
  | _ => RX0
def isRf (k s : Nat) : Bool := match cTy k s with
  | .int => false
  | _ => true
def catOK (Ls : List Value) (i : Nat) : Bool := i == 0 || (Ls.getD (i - 1) .null).category == 1
def entL (vs : List Value) (n : Nat) : List Value := let l := vs.flatMap (fun v => if v.category = 2 then [v, .null] else [v]); l ++ List.replicate (n - l.length) .null
def cmpI : ClassFile.Cond → Int32 → Int32 → Bool
  | .eq, x, y => decide (x = y)
  | .ne, x, y => decide (¬ x = y)
  | .lt, x, y => decide (x < y)
  | .ge, x, y => decide (y ≤ x)
  | .gt, x, y => decide (y < x)
  | .le, x, y => decide (x ≤ y)
def jmp (pc : Nat) (off : Int) : Nat := ((pc : Int) + off).toNat
def jok (pc : Nat) (off : Int) : Bool := decide (0 ≤ (pc : Int) + off)
def inA (i : Int32) (n : Nat) : Bool := decide (¬ (i < 0 ∨ n ≤ i.toNatClampNeg))
end
section
/-! THE METHODS AND THE CONSTANT POOLS: by a program out of the names and the tables' words -/
def mdJ6_bitCount_0f7a4 : MD := (yJ6_bitCount_0f7a4, cJ6_bitCount_0f7a4, 1, (some .int), 10, 0, [])
def mdJ7_fill_53178 : MD := (yJ7_fill_53178, cJ7_fill_53178, 4, none, 12, 0, [])
def mdJ9_min_7cf53 : MD := (yJ9_min_7cf53, cJ9_min_7cf53, 2, (some .int), 11, 0, [])
def mdL_act : MD := (yL_act, cL_act, 10, none, 8, 9, [])
def mdL_addsUp : MD := (yL_addsUp, cL_addsUp, 10, (some .boolean), 8, 9, [])
def mdL_cell : MD := (yL_cell, cL_cell, 2, (some .int), 8, 0, [])
def mdL_isLooked : MD := (yL_isLooked, cL_isLooked, 9, (some .boolean), 8, 9, [])
def mdL_isStepped : MD := (yL_isStepped, cL_isStepped, 9, (some .boolean), 8, 9, [])
def mdL_law : MD := (yL_law, cL_law, 15, (some .boolean), 8, 10, [])
def mdL_low : MD := (yL_low, cL_low, 2, (some .int), 8, 0, [])
def mdL_many : MD := (yL_many, cL_many, 3, (some .int), 8, 0, [])
def mdX0_about : MD := (yX0_about, cX0_about, 3, (some .int), 0, 1, [])
def mdX0_begin : MD := (yX0_begin, cX0_begin, 4, none, 0, 0, [])
def mdX0_copyFrom : MD := (yX0_copyFrom, cX0_copyFrom, 2, none, 0, 0, [])
def mdX0_distanceFrom : MD := (yX0_distanceFrom, cX0_distanceFrom, 2, (some .int), 0, 0, [])
def mdX0_init : MD := (yX0_init, cX0_init, 1, none, 0, 1, [])
def mdX0_isSickOn : MD := (yX0_isSickOn, cX0_isSickOn, 2, (some .boolean), 0, 0, [])
def mdX0_standAt : MD := (yX0_standAt, cX0_standAt, 3, none, 0, 1, [])
def mdX1_init : MD := (yX1_init, cX1_init, 1, none, 1, 1, [])
def mdX2_allowsComplaint : MD := (yX2_allowsComplaint, cX2_allowsComplaint, 2, (some .boolean), 2, 0, [])
def mdX2_begin : MD := (yX2_begin, cX2_begin, 3, none, 2, 0, [])
def mdX2_copyFrom : MD := (yX2_copyFrom, cX2_copyFrom, 2, none, 2, 0, [])
def mdX2_fileComplaint : MD := (yX2_fileComplaint, cX2_fileComplaint, 2, none, 2, 0, [])
def mdX2_hasPriority : MD := (yX2_hasPriority, cX2_hasPriority, 2, (some .boolean), 2, 0, [])
def mdX2_init : MD := (yX2_init, cX2_init, 1, none, 2, 1, [])
def mdX2_note : MD := (yX2_note, cX2_note, 4, none, 2, 0, [])
def mdX3_addGuardToWays : MD := (yX3_addGuardToWays, cX3_addGuardToWays, 5, none, 3, 1, [])
def mdX3_choose : MD := (yX3_choose, cX3_choose, 4, none, 3, 1, [])
def mdX3_collectPlaces : MD := (yX3_collectPlaces, cX3_collectPlaces, 4, none, 3, 2, [])
def mdX3_find : MD := (yX3_find, cX3_find, 4, none, 3, 3, [])
def mdX3_init : MD := (yX3_init, cX3_init, 1, none, 3, 1, [])
def mdX4_draw : MD := (yX4_draw, cX4_draw, 8, none, 4, 2, [])
def mdX4_drawOwn : MD := (yX4_drawOwn, cX4_drawOwn, 6, none, 4, 1, [])
def mdX4_init : MD := (yX4_init, cX4_init, 1, none, 4, 1, [])
def mdX4_lacksGuard : MD := (yX4_lacksGuard, cX4_lacksGuard, 2, (some .boolean), 4, 1, [])
def mdX4_nearest : MD := (yX4_nearest, cX4_nearest, 9, (some .int), 4, 1, [])
def mdX4_place : MD := (yX4_place, cX4_place, 3, none, 4, 0, [])
def mdX4_placeOrLeaveOpen : MD := (yX4_placeOrLeaveOpen, cX4_placeOrLeaveOpen, 3, none, 4, 1, [])
def mdX4_reasonNow : MD := (yX4_reasonNow, cX4_reasonNow, 1, (some .int), 4, 0, [])
def mdX5_about : MD := (yX5_about, cX5_about, 2, (some .int), 5, 2, [])
def mdX5_aboutPost : MD := (yX5_aboutPost, cX5_aboutPost, 4, (some .int), 5, 1, [])
def mdX5_allowsComplaint : MD := (yX5_allowsComplaint, cX5_allowsComplaint, 2, (some .boolean), 5, 1, [])
def mdX5_allowsDays : MD := (yX5_allowsDays, cX5_allowsDays, 2, (some .boolean), 5, 1, [])
def mdX5_complaints : MD := (yX5_complaints, cX5_complaints, 3, (some .int), 5, 0, [])
def mdX5_copyFrom : MD := (yX5_copyFrom, cX5_copyFrom, 3, none, 5, 1, [])
def mdX5_earnings : MD := (yX5_earnings, cX5_earnings, 3, (some .int), 5, 0, [])
def mdX5_fileComplaint : MD := (yX5_fileComplaint, cX5_fileComplaint, 2, (some .int), 5, 1, [])
def mdX5_hasGuard : MD := (yX5_hasGuard, cX5_hasGuard, 2, (some .boolean), 5, 1, [])
def mdX5_hasPost : MD := (yX5_hasPost, cX5_hasPost, 2, (some .boolean), 5, 1, [])
def mdX5_init : MD := (yX5_init, cX5_init, 2, none, 5, 2, [])
def mdX5_isSchoolDay : MD := (yX5_isSchoolDay, cX5_isSchoolDay, 3, (some .boolean), 5, 0, [])
def mdX5_neededPosts : MD := (yX5_neededPosts, cX5_neededPosts, 6, (some .int), 5, 1, [])
def mdX5_newGuard : MD := (yX5_newGuard, cX5_newGuard, 4, (some .int), 5, 1, [])
def mdX5_newHoliday : MD := (yX5_newHoliday, cX5_newHoliday, 3, (some .int), 5, 0, [])
def mdX5_newPost : MD := (yX5_newPost, cX5_newPost, 3, (some .int), 5, 1, [])
def mdX5_nextDay : MD := (yX5_nextDay, cX5_nextDay, 1, (some .int), 5, 0, [])
def mdX5_ownerOf : MD := (yX5_ownerOf, cX5_ownerOf, 3, (some .int), 5, 0, [])
def mdX5_reportSick : MD := (yX5_reportSick, cX5_reportSick, 3, (some .int), 5, 1, [])
def mdX5_takeDays : MD := (yX5_takeDays, cX5_takeDays, 6, (some .int), 5, 4, [])
def mdX5_takeNext : MD := (yX5_takeNext, cX5_takeNext, 5, (some .int), 5, 3, [])
def mdX5_timesOpen : MD := (yX5_timesOpen, cX5_timesOpen, 3, (some .int), 5, 0, [])
def mdX5_wellGuards : MD := (yX5_wellGuards, cX5_wellGuards, 4, (some .int), 5, 1, [])
def mdX6_addGuard : MD := (yX6_addGuard, cX6_addGuard, 4, (some .int), 6, 8, [])
def mdX6_addHoliday : MD := (yX6_addHoliday, cX6_addHoliday, 3, (some .int), 6, 8, [])
def mdX6_addPost : MD := (yX6_addPost, cX6_addPost, 3, (some .int), 6, 8, [])
def mdX6_best : MD := (yX6_best, cX6_best, 4, (some .int), 6, 8, [])
def mdX6_bestHome : MD := (yX6_bestHome, cX6_bestHome, 7, (some .int), 6, 8, [])
def mdX6_complain : MD := (yX6_complain, cX6_complain, 2, (some .int), 6, 8, [])
def mdX6_daysToOpen : MD := (yX6_daysToOpen, cX6_daysToOpen, 5, (some .int), 6, 4, [])
def mdX6_digest : MD := (yX6_digest, cX6_digest, 5, (some .long), 6, 3, [])
def mdX6_filled : MD := (yX6_filled, cX6_filled, 2, (some .double), 6, 1, [])
def mdX6_guard : MD := (yX6_guard, cX6_guard, 3, (some .int), 6, 8, [])
def mdX6_init : MD := (yX6_init, cX6_init, 2, none, 6, 3, [])
def mdX6_isDay : MD := (yX6_isDay, cX6_isDay, 1, (some .boolean), 6, 1, [])
def mdX6_isIn : MD := (yX6_isIn, cX6_isIn, 2, (some .boolean), 6, 0, [])
def mdX6_isPlace : MD := (yX6_isPlace, cX6_isPlace, 1, (some .boolean), 6, 1, [])
def mdX6_isSession : MD := (yX6_isSession, cX6_isSession, 1, (some .boolean), 6, 1, [])
def mdX6_isWithin : MD := (yX6_isWithin, cX6_isWithin, 3, (some .boolean), 6, 0, [])
def mdX6_missed : MD := (yX6_missed, cX6_missed, 3, (some .int), 6, 8, [])
def mdX6_mixed : MD := (yX6_mixed, cX6_mixed, 3, (some .long), 6, 0, [])
def mdX6_needed : MD := (yX6_needed, cX6_needed, 3, (some .int), 6, 8, [])
def mdX6_open : MD := (yX6_open, cX6_open, 3, (some .int), 6, 8, [])
def mdX6_openOnDay : MD := (yX6_openOnDay, cX6_openOnDay, 5, (some .int), 6, 3, [])
def mdX6_pass : MD := (yX6_pass, cX6_pass, 2, (some .int), 6, 8, [])
def mdX6_post : MD := (yX6_post, cX6_post, 3, (some .int), 6, 8, [])
def mdX6_save : MD := (yX6_save, cX6_save, 3, none, 6, 2, [])
def mdX6_setNeeds : MD := (yX6_setNeeds, cX6_setNeeds, 4, (some .int), 6, 8, [])
def mdX6_setPost : MD := (yX6_setPost, cX6_setPost, 4, (some .int), 6, 8, [])
def mdX6_sick : MD := (yX6_sick, cX6_sick, 3, (some .int), 6, 8, [])
def mdX6_standing : MD := (yX6_standing, cX6_standing, 4, (some .int), 6, 8, [])
def mdX6_step : MD := (yX6_step, cX6_step, 1, (some .int), 6, 8, [])
def mdX6_undo : MD := (yX6_undo, cX6_undo, 1, (some .int), 6, 8, [])
def mdX6_value : MD := (yX6_value, cX6_value, 2, (some .int), 6, 8, [])
def ow (c : Nat) : String := match c with
  | 8 => RL
  | 10 => RJ6
  | 11 => RJ9
  | 12 => RJ7
  | k => cR k
/-- fields: class, entry, class of the field, its slot, the word's place in the tables -/
def fRT : List (Nat × Nat × Nat × Nat × Nat) := [(0, 9, 0, 0, 95), (0, 15, 0, 1, 97), (0, 18, 0, 2, 100), (0, 21, 0, 3, 104), (0, 24, 0, 4, 106), (0, 27, 0, 5, 107), (0, 30, 0, 6, 109), (0, 33, 0, 7, 112), (0, 36, 0, 8, 113), (1, 9, 1, 0, 245), (1, 15, 1, 2, 247), (1, 18, 1, 3, 248), (1, 21, 1, 4, 249), (2, 9, 2, 0, 51), (2, 15, 2, 1, 55), (2, 18, 2, 2, 58), (2, 21, 2, 3, 60), (2, 24, 2, 4, 62), (2, 27, 2, 5, 64), (2, 30, 2, 6, 65), (2, 33, 2, 7, 66), (2, 36, 2, 8, 68), (3, 9, 3, 0, 221), (3, 15, 3, 2, 223), (3, 29, 5, 6, 152), (3, 35, 4, 5, 200), (3, 44, 5, 5, 148), (3, 55, 3, 1, 222), (3, 58, 5, 4, 145), (3, 65, 5, 3, 141), (3, 69, 2, 0, 53), (3, 80, 0, 1, 98), (3, 89, 3, 3, 224), (3, 92, 3, 4, 226), (4, 9, 4, 0, 189), (4, 15, 4, 1, 192), (4, 32, 5, 4, 144), (4, 36, 5, 3, 140), (4, 44, 5, 7, 156), (4, 52, 2, 0, 52), (4, 69, 4, 3, 196), (4, 72, 4, 2, 194), (4, 74, 4, 4, 199), (4, 76, 4, 5, 201), (4, 79, 5, 6, 153), (4, 82, 5, 5, 149), (4, 86, 0, 2, 101), (4, 104, 0, 1, 99), (4, 107, 0, 3, 105), (5, 9, 5, 0, 133), (5, 15, 5, 1, 135), (5, 20, 5, 3, 139), (5, 26, 5, 5, 147), (5, 32, 5, 2, 137), (5, 36, 5, 4, 143), (5, 39, 5, 6, 151), (5, 42, 5, 7, 155), (5, 45, 5, 8, 158), (5, 48, 5, 9, 159), (5, 75, 0, 2, 103), (5, 82, 0, 6, 110), (5, 93, 2, 3, 61), (5, 99, 2, 1, 57), (5, 111, 4, 0, 190), (5, 114, 4, 1, 193), (5, 123, 2, 0, 54), (5, 129, 4, 2, 195), (5, 138, 4, 3, 198), (5, 145, 2, 2, 59), (5, 148, 0, 5, 108), (5, 154, 2, 4, 63), (5, 160, 2, 7, 67), (5, 163, 2, 8, 69), (6, 12, 6, 0, 267), (6, 16, 6, 1, 268), (6, 19, 6, 2, 269), (6, 26, 6, 4, 271), (6, 33, 6, 5, 272), (6, 40, 6, 6, 273), (6, 59, 5, 2, 138), (6, 80, 5, 4, 146), (6, 98, 5, 3, 142), (6, 102, 2, 1, 56), (6, 109, 5, 6, 154), (6, 129, 5, 5, 150), (6, 133, 0, 2, 102), (6, 184, 5, 1, 136), (6, 188, 5, 0, 134), (6, 203, 4, 3, 197), (6, 206, 4, 0, 191), (6, 221, 3, 3, 225), (6, 224, 3, 4, 227), (6, 236, 0, 6, 111), (6, 243, 5, 7, 157), (6, 246, 0, 0, 96), (6, 249, 5, 9, 160), (6, 257, 1, 1, 246), (6, 278, 6, 3, 270)]
def fRes (c i : Nat) : Option (Nat × Nat) := (fRT.find? (fun q => q.1 == c && q.2.1 == i)).map (fun q => (q.2.2.1, q.2.2.2.1))
/-- calls: class, entry, the method, how (0 static, 1 by the receiver, 2 a constructor, 3 static of a nest mate, 4 a nest mate's constructor, 5 may throw, 6 static with a table, 7 Object(), 8 arraycopy), parameters, the words' places -/
def mR_0 : List (Nat × Nat × MD × Nat × Nat × List Nat) := [
  (0, 3, mdX6_isWithin, 7, 0, [94, 34, 35]),
  (0, 39, mdX0_distanceFrom, 1, 1, [542, 14, 521, 519, 520]),
  (0, 43, mdX6_isWithin, 9, 2, [543, 544, 27, 545]),
  (0, 49, mdX0_isSickOn, 1, 1, [564, 14, 491, 489, 490]),
  (1, 3, mdX6_isWithin, 7, 0, [244, 34, 35]),
  (2, 3, mdX6_isWithin, 7, 0, [50, 34, 35]),
  (3, 3, mdX6_isWithin, 7, 0, [220, 34, 35]),
  (3, 18, mdX3_collectPlaces, 1, 2, [680, 16, 683, 682, 7]),
  (3, 23, mdJ7_fill_53178, 0, 2, [686, 26, 498, 497]),
  (3, 40, mdX6_isIn, 3, 2, [11, 501, 500]),
  (3, 48, mdX3_addGuardToWays, 1, 1, [688, 16, 691, 690, 8]),
  (3, 52, mdX3_choose, 1, 0, [694, 16, 697, 696, 9])]
def mR_1 : List (Nat × Nat × MD × Nat × Nat × List Nat) := [
  (3, 61, mdX4_lacksGuard, 1, 1, [684, 15, 509, 507, 508]),
  (3, 74, mdX0_distanceFrom, 1, 1, [692, 14, 521, 519, 520]),
  (3, 83, mdX6_isWithin, 9, 2, [693, 544, 27, 545]),
  (3, 95, mdJ6_bitCount_0f7a4, 0, 1, [698, 25, 548, 547]),
  (4, 3, mdX6_isWithin, 7, 0, [188, 34, 35]),
  (4, 18, mdX5_neededPosts, 1, 2, [476, 12, 479, 477, 478]),
  (4, 24, mdX5_wellGuards, 1, 1, [484, 12, 487, 485, 486]),
  (4, 28, mdX4_drawOwn, 1, 3, [492, 15, 495, 493, 494]),
  (4, 40, mdX4_lacksGuard, 1, 1, [506, 15, 509, 507, 508]),
  (4, 47, mdX2_hasPriority, 1, 1, [510, 13, 513, 511, 512]),
  (4, 55, mdX4_nearest, 1, 2, [514, 15, 517, 516, 3]),
  (4, 59, mdX4_placeOrLeaveOpen, 1, 2, [522, 15, 525, 524, 4])]
def mR_2 : List (Nat × Nat × MD × Nat × Nat × List Nat) := [
  (4, 63, mdJ7_fill_53178, 0, 2, [496, 26, 498, 497]),
  (4, 91, mdX6_isIn, 3, 2, [11, 501, 500]),
  (4, 95, mdX4_place, 1, 2, [502, 15, 505, 504, 2]),
  (4, 97, mdX4_reasonNow, 1, 0, [526, 15, 529, 528, 5]),
  (4, 101, mdX0_distanceFrom, 1, 1, [518, 14, 521, 519, 520]),
  (5, 3, mdX6_isWithin, 7, 0, [41, 34, 35]),
  (5, 30, mdX2_init, 4, 0, [13, 49, 48]),
  (5, 31, mdX0_init, 4, 0, [14, 93, 92]),
  (5, 51, mdX6_isWithin, 8, 5, [391, 393, 392, 23]),
  (5, 57, mdX2_copyFrom, 1, 1, [394, 13, 397, 395, 396]),
  (5, 61, mdX0_copyFrom, 1, 1, [398, 14, 401, 399, 400]),
  (5, 64, mdX6_isWithin, 3, 3, [11, 298, 297])]
def mR_3 : List (Nat × Nat × MD × Nat × Nat × List Nat) := [
  (5, 68, mdX2_begin, 1, 2, [406, 13, 409, 407, 408]),
  (5, 72, mdX0_begin, 1, 3, [446, 14, 449, 447, 448]),
  (5, 78, mdX5_nextDay, 1, 0, [459, 12, 462, 460, 461]),
  (5, 85, mdX2_allowsComplaint, 1, 1, [749, 13, 752, 750, 751]),
  (5, 89, mdX2_fileComplaint, 1, 1, [758, 13, 761, 759, 760]),
  (5, 96, mdX5_isSchoolDay, 1, 1, [480, 12, 483, 481, 482]),
  (5, 102, mdX0_isSickOn, 1, 1, [488, 14, 491, 489, 490]),
  (5, 105, mdX4_draw, 1, 3, [472, 15, 475, 473, 474]),
  (5, 117, mdX2_note, 1, 3, [530, 13, 533, 531, 532]),
  (5, 120, mdX5_hasGuard, 1, 1, [534, 12, 537, 535, 536]),
  (5, 126, mdX0_standAt, 1, 2, [538, 14, 541, 539, 540]),
  (5, 132, mdJ6_bitCount_0f7a4, 0, 1, [546, 25, 548, 547])]
def mR_4 : List (Nat × Nat × MD × Nat × Nat × List Nat) := [
  (5, 141, mdX5_takeNext, 1, 1, [468, 12, 471, 469, 470]),
  (5, 151, mdX5_ownerOf, 1, 1, [628, 12, 440, 438, 439]),
  (5, 157, mdX2_hasPriority, 1, 1, [629, 13, 513, 511, 512]),
  (5, 166, mdX5_timesOpen, 1, 0, [573, 12, 576, 574, 575]),
  (5, 168, mdX5_complaints, 1, 0, [577, 12, 580, 578, 579]),
  (5, 170, mdX5_earnings, 1, 0, [581, 12, 584, 582, 583]),
  (5, 172, mdX5_wellGuards, 1, 1, [585, 12, 487, 485, 486]),
  (6, 3, mdX6_isWithin, 7, 0, [33, 34, 35]),
  (6, 11, mdX5_init, 2, 0, [38, 12, 40, 39]),
  (6, 25, mdX4_init, 4, 0, [15, 187, 186]),
  (6, 32, mdX3_init, 4, 0, [16, 219, 218]),
  (6, 39, mdX1_init, 4, 0, [17, 243, 242])]
def mR_5 : List (Nat × Nat × MD × Nat × Nat × List Nat) := [
  (6, 44, mdX6_isDay, 0, 1, [590, 11, 592, 591]),
  (6, 48, mdX6_isWithin, 0, 3, [296, 11, 298, 297]),
  (6, 68, mdX6_save, 1, 0, [383, 11, 386, 385, 1]),
  (6, 71, mdX5_newHoliday, 1, 2, [719, 12, 722, 720, 721]),
  (6, 75, mdX6_isPlace, 0, 1, [293, 11, 295, 294]),
  (6, 85, mdX5_newPost, 1, 2, [402, 12, 405, 403, 404]),
  (6, 88, mdX5_hasPost, 1, 1, [414, 12, 417, 415, 416]),
  (6, 114, mdX5_ownerOf, 1, 1, [437, 12, 440, 438, 439]),
  (6, 120, mdX5_newGuard, 1, 3, [442, 12, 445, 443, 444]),
  (6, 124, mdX5_hasGuard, 1, 1, [556, 12, 537, 535, 536]),
  (6, 142, mdX5_reportSick, 1, 2, [737, 12, 740, 738, 739]),
  (6, 145, mdX5_allowsComplaint, 1, 1, [745, 12, 748, 746, 747])]
def mR_6 : List (Nat × Nat × MD × Nat × Nat × List Nat) := [
  (6, 150, mdX5_fileComplaint, 1, 1, [754, 12, 757, 755, 756]),
  (6, 153, mdX5_nextDay, 1, 0, [559, 12, 462, 460, 461]),
  (6, 159, mdX5_takeNext, 1, 1, [605, 12, 471, 469, 470]),
  (6, 163, mdX5_allowsDays, 1, 1, [455, 12, 458, 456, 457]),
  (6, 168, mdX5_takeDays, 1, 2, [464, 12, 467, 465, 466]),
  (6, 174, mdX5_aboutPost, 1, 2, [624, 12, 627, 625, 626]),
  (6, 177, mdX0_about, 1, 2, [560, 14, 563, 561, 562]),
  (6, 180, mdX5_about, 1, 1, [569, 12, 572, 570, 571]),
  (6, 191, mdX6_isSession, 0, 1, [656, 11, 658, 657]),
  (6, 196, mdX5_neededPosts, 1, 2, [660, 12, 479, 477, 478]),
  (6, 199, mdX4_draw, 1, 3, [599, 15, 475, 473, 474]),
  (6, 211, mdX5_wellGuards, 1, 1, [674, 12, 487, 485, 486])]
def mR_7 : List (Nat × Nat × MD × Nat × Nat × List Nat) := [
  (6, 214, mdX4_drawOwn, 1, 3, [675, 15, 495, 493, 494]),
  (6, 217, mdX3_find, 1, 2, [676, 16, 679, 677, 678]),
  (6, 229, mdX0_isSickOn, 1, 1, [594, 14, 491, 489, 490]),
  (6, 232, mdX5_copyFrom, 1, 1, [387, 12, 390, 388, 389]),
  (6, 239, mdX6_openOnDay, 1, 2, [595, 11, 598, 597, 6]),
  (6, 252, mdX5_timesOpen, 1, 0, [648, 12, 576, 574, 575]),
  (6, 285, mdX6_mixed, 0, 2, [620, 11, 622, 621]),
  (6, 291, mdJ6_bitCount_0f7a4, 0, 1, [600, 25, 548, 547]),
  (8, 8, mdX6_value, 5, 1, [565, 11, 568, 566, 567]),
  (8, 14, mdX6_post, 5, 2, [640, 11, 643, 641, 642]),
  (8, 18, mdX6_guard, 5, 2, [552, 11, 555, 553, 554]),
  (8, 21, mdX6_filled, 1, 0, [644, 11, 647, 645, 646])]
def mR_8 : List (Nat × Nat × MD × Nat × Nat × List Nat) := [
  (8, 25, mdX6_needed, 5, 2, [652, 11, 655, 653, 654]),
  (8, 28, mdX6_open, 5, 2, [661, 11, 664, 662, 663]),
  (8, 31, mdX6_standing, 5, 3, [665, 11, 668, 666, 667]),
  (8, 35, mdX6_best, 5, 3, [669, 11, 672, 670, 671]),
  (8, 38, mdL_many, 0, 1, [699, 10, 701, 700]),
  (8, 43, mdX6_step, 5, 0, [705, 11, 708, 706, 707]),
  (8, 47, mdL_low, 0, 2, [633, 10, 635, 634]),
  (8, 50, mdX6_addPost, 5, 2, [289, 11, 292, 290, 291]),
  (8, 53, mdX6_addGuard, 5, 3, [410, 11, 413, 411, 412]),
  (8, 56, mdX6_addHoliday, 5, 2, [713, 11, 716, 714, 715]),
  (8, 59, mdX6_setNeeds, 5, 2, [723, 11, 726, 724, 725]),
  (8, 62, mdX6_setPost, 5, 2, [728, 11, 731, 729, 730])]
def mR_9 : List (Nat × Nat × MD × Nat × Nat × List Nat) := [
  (8, 65, mdX6_sick, 5, 2, [733, 11, 736, 734, 735]),
  (8, 68, mdX6_complain, 5, 1, [741, 11, 744, 742, 743]),
  (8, 71, mdX6_pass, 5, 1, [450, 11, 453, 451, 452]),
  (8, 74, mdX6_init, 2, 0, [30, 11, 32, 31]),
  (8, 75, mdL_cell, 0, 2, [630, 10, 632, 631]),
  (8, 79, mdX6_digest, 1, 0, [615, 11, 618, 616, 617]),
  (8, 83, mdL_act, 0, 3, [710, 10, 712, 711]),
  (8, 87, mdX6_undo, 5, 0, [610, 11, 613, 611, 612]),
  (8, 90, mdL_addsUp, 0, 1, [637, 10, 639, 638]),
  (8, 94, mdL_isLooked, 0, 3, [649, 10, 651, 650]),
  (8, 98, mdX6_missed, 5, 2, [586, 11, 589, 587, 588]),
  (8, 101, mdX6_bestHome, 5, 1, [606, 11, 609, 607, 608])]
def mR_10 : List (Nat × Nat × MD × Nat × Nat × List Nat) := [
  (8, 104, mdL_isStepped, 0, 1, [702, 10, 704, 703]),
  (8, 107, mdX6_daysToOpen, 1, 0, [601, 11, 604, 602, 603])]
def mRT : List (Nat × Nat × MD × Nat × Nat × List Nat) := mR_0 ++ (mR_1 ++ (mR_2 ++ (mR_3 ++ (mR_4 ++ (mR_5 ++ (mR_6 ++ (mR_7 ++ (mR_8 ++ (mR_9 ++ (mR_10))))))))))
def mRes (c i : Nat) : Option (MD × Nat × Nat) := (mRT.find? (fun q => q.1 == c && q.2.1 == i)).map (fun q => (q.2.2.1, q.2.2.2.1, q.2.2.2.2.1))
/-- classes that are made: class, entry, the class; arrays of references: class, entry, kind -/
def nRT : List (Nat × Nat × Nat × List Nat) := [(5, 18, 2, [42, 46, 13]), (5, 24, 0, [44, 90, 14]), (6, 9, 5, [36, 37, 12]), (6, 23, 4, [183, 184, 15]), (6, 30, 3, [215, 216, 16]), (6, 37, 1, [239, 240, 17]), (8, 9, 6, [28, 29, 11])]
def nRes (c i : Nat) : Option Nat := (nRT.find? (fun q => q.1 == c && q.2.1 == i)).map (fun q => q.2.2.1)
def qRT : List (Nat × Nat × Nat × Nat) := [(5, 18, 10, 42), (5, 24, 9, 44), (6, 9, 11, 36)]
def qRes (c i : Nat) : Option Nat := (qRT.find? (fun q => q.1 == c && q.2.1 == i)).map (fun q => q.2.2.1)
/-- constants -/
def iRT : List (Nat × Nat × Int32 × Nat) := [(3, 22, 1000000, 685), (8, 7, 2147483647, 636), (10, 265, 1431655765, 549), (10, 266, 858993459, 550), (10, 267, 252645135, 551)]
def iRes (c i : Nat) : Option Int32 := (iRT.find? (fun q => q.1 == c && q.2.1 == i)).map (fun q => q.2.2.1)
def lRT : List (Nat × Nat × Int64 × Nat) := [(6, 283, 3617, 619), (6, 289, 31, 623)]
def lRes (c i : Nat) : Option Int64 := (lRT.find? (fun q => q.1 == c && q.2.1 == i)).map (fun q => q.2.2.1)
/-- the three exceptions: entry of the class in CrossingPosts, of its constructor, its name; the class's entry in the law; the texts -/
def xRT : List (Nat × Nat × String × Nat) := [(52, 56, "java/lang/IllegalArgumentException", 299), (63, 67, "java/lang/IllegalStateException", 367), (91, 95, "java/lang/IndexOutOfBoundsException", 419)]
def eRT : List (Nat × String × Nat) := []
def sRT : List (Nat × String) := [(54, "a day is out of range"), (65, "there are 6 holidays"), (78, "place or needs are out of range"), (83, "there are 8 posts"), (93, "there is no such post"), (96, "needs are out of range"), (107, "home or reach is out of range"), (112, "there are 10 guards"), (118, "the post is another guard's own"), (127, "there is no such guard or post"), (138, "there is no such guard"), (140, "days are out of range"), (148, "there can be no complaint about the post"), (157, "the day is above 3000"), (166, "a day would be above 3000"), (172, "what is out of range"), (194, "day or session is out of range"), (209, "day, session or what is out of range"), (227, "day is out of range"), (281, "there is no saved state")]
def xRes (ik ic : Nat) : Option String := (xRT.find? (fun q => q.1 == ik && q.2.1 == ic)).map (fun q => q.2.2.1)
def eRes (j : Nat) : Option String := (eRT.find? (fun q => q.1 == j)).map (fun q => q.2.1)
def nestL : List (String × Nat × MethodName) := [(ow 3, 40, yX6_isIn), (ow 4, 91, yX6_isIn), (ow 5, 30, yX2_init), (ow 5, 31, yX0_init), (ow 5, 64, yX6_isWithin), (ow 6, 25, yX4_init), (ow 6, 32, yX3_init), (ow 6, 39, yX1_init)]
end
section
/-! WHAT AN ABSTRACT STATE SAYS OF THE MACHINE -/
set_option maxRecDepth 100000 in
theorem cls_ok : ∀ k, k < 8 → vwCl[k]? = some (cR k, cT k, cN k) := by
  intro k hk
  rcases (show k = 0 ∨ k = 1 ∨ k = 2 ∨ k = 3 ∨ k = 4 ∨ k = 5 ∨ k = 6 ∨ k = 7 by omega) with rfl | rfl | rfl | rfl | rfl | rfl | rfl | rfl <;> rfl
theorem cls_ty : ∀ k, k < 8 → ∀ j, j < cN k → parseFieldDescriptor (cT k j).2.2.1 = some (cTy k j) := by
  intro k hk
  rcases (show k = 0 ∨ k = 1 ∨ k = 2 ∨ k = 3 ∨ k = 4 ∨ k = 5 ∨ k = 6 ∨ k = 7 by omega) with rfl | rfl | rfl | rfl | rfl | rfl | rfl | rfl
  · exact tyX0_ok
  · exact tyX1_ok
  · exact tyX2_ok
  · exact tyX3_ok
  · exact tyX4_ok
  · exact tyX5_ok
  · exact tyX6_ok
  · exact tyX0_ok
theorem cls_nm : ∀ k, k < 8 → ∀ a, a < cN k → ∀ b, b < cN k → a ≠ b → (cT k a).2.1 ≠ (cT k b).2.1 := by
  intro k hk
  rcases (show k = 0 ∨ k = 1 ∨ k = 2 ∨ k = 3 ∨ k = 4 ∨ k = 5 ∨ k = 6 ∨ k = 7 by omega) with rfl | rfl | rfl | rfl | rfl | rfl | rfl | rfl
  · exact nmX0
  · exact nmX1
  · exact nmX2
  · exact nmX3
  · exact nmX4
  · exact nmX5
  · exact nmX6
  · exact nmX0
/-- the good words of the tables -/
def GW : List Cond := lw_tbl.filter goodWord
def atW (i : Nat) (w : Cond) : Bool := decide (lw_tbl[i]? = some w) && goodWord w
theorem atW_mem {i : Nat} {w : Cond} (h : atW i w = true) : w ∈ GW := by
  unfold atW at h
  rw [Bool.and_eq_true, decide_eq_true_eq] at h
  exact List.mem_filter.mpr ⟨List.mem_of_getElem? h.1, h.2⟩
theorem GW_good {w : Cond} (h : w ∈ GW) : goodWord w = true := (List.mem_filter.mp h).2
theorem GW_self {ws : List Cond} (h : ∀ w ∈ ws, w ∈ GW) : GoodIn GW ws := fun w hw => ⟨h w hw, good_of_word (GW_good (h w hw))⟩
set_option maxRecDepth 100000 in
theorem cls_in : ∀ k, k < 8 → ∀ w ∈ u_ws (cR k) (cT k) (cN k), w ∈ GW := by
  intro k hk w hw
  have h : ∀ k, k < 8 → ((u_ws (cR k) (cT k) (cN k)).all (fun w => decide (w ∈ lw_tbl) && goodWord w)) = true := by decide +kernel
  have h2 := List.all_eq_true.mp (h k hk) w hw
  rw [Bool.and_eq_true, decide_eq_true_eq] at h2
  exact List.mem_filter.mpr h2
def okF (q : Nat × Nat × Nat × Nat × Nat) : Bool := decide (q.2.2.1 < 8) && decide (q.2.2.2.1 < cN q.2.2.1) && atW q.2.2.2.2 (.fieldLink (ow q.1) q.2.1 (cT q.2.2.1 q.2.2.2.1).1 (cT q.2.2.1 q.2.2.2.1).2.1 (cT q.2.2.1 q.2.2.2.1).2.2.1)
set_option maxRecDepth 100000 in
theorem fRT_ok : fRT.all okF = true := by decide +kernel
theorem fRes_ok {c i k f : Nat} (h : fRes c i = some (k, f)) : k < 8 ∧ f < cN k ∧ Cond.fieldLink (ow c) i (cT k f).1 (cT k f).2.1 (cT k f).2.2.1 ∈ GW := by
  unfold fRes at h
  obtain ⟨q, hq, he⟩ := Option.map_eq_some_iff.mp h
  have hm := List.mem_of_find?_eq_some hq
  have hp := List.find?_some hq
  rw [Bool.and_eq_true, beq_iff_eq, beq_iff_eq] at hp
  have ho := List.all_eq_true.mp fRT_ok q hm
  unfold okF at ho
  rw [Bool.and_eq_true, Bool.and_eq_true, decide_eq_true_eq, decide_eq_true_eq] at ho
  cases he
  exact ⟨ho.1.1, ho.1.2, by rw [← hp.1, ← hp.2]; exact atW_mem ho.2⟩
def okM (q : Nat × Nat × MD × Nat × Nat × List Nat) : Bool :=
  let y := q.2.2.1
  let mode := q.2.2.2.1
  let ps := q.2.2.2.2.2
  let pa := fun i => ps.getD i 100000
  if mode = 8 then atW (pa 0) (.methodLink (ow q.1) q.2.1 arraycopyName) && atW (pa 1) (.native arraycopyName) && atW (pa 2) (.static arraycopyName) && atW (pa 3) (.initialized "java/lang/System")
  else if mode = 9 then atW (pa 0) (.methodLink (ow q.1) q.2.1 Lib.Math.min.name) && atW (pa 1) (.static Lib.Math.min.name) && atW (pa 2) (.initialized "java/lang/Math") && atW (pa 3) (.code Lib.Math.min.name Lib.Math.min.code 2 (some .int))
  else if mode = 7 then atW (pa 0) (.methodLink (ow q.1) q.2.1 objectInit) && atW (pa 1) (.instanceMethod objectInit) && atW (pa 2) (.code objectInit ⟨#[0xb1]⟩ 1 none)
  else decide (mode < 7) && decide (mM y ≤ 16 ∧ (mC y = 8 → q.1 = 8)) && decide ((mN y).cls = ow (mC y)) && plainName (mN y).cls && decide ((mN y).cls ≠ "java/lang/invoke/MethodHandle" ∧ (mN y).cls ≠ "java/lang/invoke/VarHandle" ∧ (parseMethodDescriptor (mN y).desc).map (fun d => d.parameters.length) = some q.2.2.2.2.1) &&
    (if mode = 3 ∨ mode = 4 then decide ((ow q.1, q.2.1, mN y) ∈ nestL) && atW (pa 0) (.initialized (mN y).cls) && atW (pa 1) (.code (mN y) (mB y) (mM y) (mR y)) && (if mode = 3 then atW (pa 2) (.static (mN y)) else atW (pa 2) (.instanceMethod (mN y)) && decide ((mN y).name = "<init>" ∧ mR y = none)) && decide (mH y = [])
    else atW (pa 0) (.methodLink (ow q.1) q.2.1 (mN y)) && atW (pa 1) (.initialized (mN y).cls) &&
      (if mode = 6 then atW (pa 2) (.codeWith (mN y) (mB y) (mM y) (mR y) (mH y)) else atW (pa 2) (.code (mN y) (mB y) (mM y) (mR y)) && decide (mH y = [])) &&
      (if mode = 0 ∨ mode = 6 then atW (pa 3) (.static (mN y)) else atW (pa 3) (.instanceMethod (mN y)) && (if mode = 2 then decide ((mN y).name = "<init>" ∧ mR y = none) else atW (pa 4) (.selects (mN y).cls (mN y) (mN y)))))
set_option maxRecDepth 100000 in
theorem mR_0_ok : ∀ q ∈ mR_0, okM q = true := List.all_eq_true.mp (by decide +kernel)
set_option maxRecDepth 100000 in
theorem mR_1_ok : ∀ q ∈ mR_1, okM q = true := List.all_eq_true.mp (by decide +kernel)
set_option maxRecDepth 100000 in
theorem mR_2_ok : ∀ q ∈ mR_2, okM q = true := List.all_eq_true.mp (by decide +kernel)
set_option maxRecDepth 100000 in
theorem mR_3_ok : ∀ q ∈ mR_3, okM q = true := List.all_eq_true.mp (by decide +kernel)
set_option maxRecDepth 100000 in
theorem mR_4_ok : ∀ q ∈ mR_4, okM q = true := List.all_eq_true.mp (by decide +kernel)
set_option maxRecDepth 100000 in
theorem mR_5_ok : ∀ q ∈ mR_5, okM q = true := List.all_eq_true.mp (by decide +kernel)
set_option maxRecDepth 100000 in
theorem mR_6_ok : ∀ q ∈ mR_6, okM q = true := List.all_eq_true.mp (by decide +kernel)
set_option maxRecDepth 100000 in
theorem mR_7_ok : ∀ q ∈ mR_7, okM q = true := List.all_eq_true.mp (by decide +kernel)
set_option maxRecDepth 100000 in
theorem mR_8_ok : ∀ q ∈ mR_8, okM q = true := List.all_eq_true.mp (by decide +kernel)
set_option maxRecDepth 100000 in
theorem mR_9_ok : ∀ q ∈ mR_9, okM q = true := List.all_eq_true.mp (by decide +kernel)
set_option maxRecDepth 100000 in
theorem mR_10_ok : ∀ q ∈ mR_10, okM q = true := List.all_eq_true.mp (by decide +kernel)
theorem mRT_ok : ∀ q ∈ mRT, okM q = true := List.forall_mem_append.mpr ⟨mR_0_ok, List.forall_mem_append.mpr ⟨mR_1_ok, List.forall_mem_append.mpr ⟨mR_2_ok, List.forall_mem_append.mpr ⟨mR_3_ok, List.forall_mem_append.mpr ⟨mR_4_ok, List.forall_mem_append.mpr ⟨mR_5_ok, List.forall_mem_append.mpr ⟨mR_6_ok, List.forall_mem_append.mpr ⟨mR_7_ok, List.forall_mem_append.mpr ⟨mR_8_ok, List.forall_mem_append.mpr ⟨mR_9_ok, mR_10_ok⟩⟩⟩⟩⟩⟩⟩⟩⟩⟩
end
section
/-! THE STEP -/
section
variable (L : Nat) (xs : Nat → Int32)
abbrev actGo (pc : Nat) (Ls st : List Value) (h : AH) : Option Act := some (Sum.inl (pc, Ls, st, h))
def op2 (f : Int32 → Int32 → Int32) (pc : Nat) (Ls st : List Value) (h : AH) : Option Act := match st with
  | .int y :: .int x :: s => actGo (pc + 1) Ls (.int (f x y) :: s) h
  | _ => none
def opL (f : Int64 → Int64 → Int64) (pc : Nat) (Ls st : List Value) (h : AH) : Option Act := match st with
  | .long y :: .long x :: s => actGo (pc + 1) Ls (.long (f x y) :: s) h
  | _ => none
def ldI (k d pc : Nat) (Ls st : List Value) (h : AH) : Option Act := match Ls[k]? with
  | some (.int x) => actGo (pc + d) Ls (.int x :: st) h
  | _ => none
def ldA (k d pc : Nat) (Ls st : List Value) (h : AH) : Option Act := match Ls[k]? with
  | some (.ref x) => actGo (pc + d) Ls (.ref x :: st) h
  | some (.retAddr x) => actGo (pc + d) Ls (.retAddr x :: st) h
  | _ => none
def ldL (k d pc : Nat) (Ls st : List Value) (h : AH) : Option Act := match Ls[k]? with
  | some (.long x) => actGo (pc + d) Ls (.long x :: st) h
  | _ => none
def ldD (k d pc : Nat) (Ls st : List Value) (h : AH) : Option Act := match Ls[k]? with
  | some (.double x) => actGo (pc + d) Ls (.double x :: st) h
  | _ => none
def stI (n k d pc : Nat) (Ls st : List Value) (h : AH) : Option Act := match st with
  | .int x :: s => if k < n ∧ catOK Ls k = true then actGo (pc + d) (Ls.set k (.int x)) s h else none
  | _ => none
def stA (n k d pc : Nat) (Ls st : List Value) (h : AH) : Option Act := match st with
  | .ref x :: s => if k < n ∧ catOK Ls k = true then actGo (pc + d) (Ls.set k (.ref x)) s h else none
  | _ => none
def stL (n k d pc : Nat) (Ls st : List Value) (h : AH) : Option Act := match st with
  | .long x :: s => if k + 1 < n ∧ catOK Ls k = true then actGo (pc + d) ((Ls.set k (.long x)).set (k + 1) .null) s h else none
  | _ => none
def stD (n k d pc : Nat) (Ls st : List Value) (h : AH) : Option Act := match st with
  | .double x :: s => if k + 1 < n ∧ catOK Ls k = true then actGo (pc + d) ((Ls.set k (.double x)).set (k + 1) .null) s h else none
  | _ => none
def getF (c i pc : Nat) (Ls st : List Value) (h : AH) : Option Act := match st, fRes c i with
  | .ref a :: s, some (k, f) => if hK h a = k then (if isRf k f then (match hR h (16 * k + f) a with
      | some j => actGo (pc + 3) Ls (.ref j :: s) h
      | none => none) else actGo (pc + 3) Ls (.int (hI h (16 * k + f) a) :: s) h) else none
  | _, _ => none
def putOK (m : MD) (k f : Nat) : Bool := !(cT k f).2.2.2 || ((mN m).name == "<init>" && (mN m).cls == cR k)
def putF (m : MD) (i pc : Nat) (Ls st : List Value) (h : AH) : Option Act := match st, fRes (mC m) i with
  | .int v :: .ref a :: s, some (k, f) => if hK h a = k ∧ isRf k f = false ∧ putOK m k f = true then actGo (pc + 3) Ls s (sI h (16 * k + f) a v) else none
  | .ref v :: .ref a :: s, some (k, f) => if hK h a = k ∧ isRf k f = true ∧ putOK m k f = true then actGo (pc + 3) Ls s (sR h (16 * k + f) a v) else none
  | _, _ => none
def iald (lw : Bool) (pc : Nat) (Ls st : List Value) (h : AH) : Option Act := match st with
  | .int i :: .ref a :: s => if hK h a = 8 ∧ inA i (hN h a) = true then actGo (pc + 1) Ls (.int (hA h a i.toNatClampNeg) :: s) h else none
  | .int i :: .retAddr _ :: s => if lw = true ∧ inA i L = true then actGo (pc + 1) Ls (.int (xs i.toNatClampNeg) :: s) h else none
  | _ => none
def alen (lw : Bool) (pc : Nat) (Ls st : List Value) (h : AH) : Option Act := match st with
  | .ref a :: s => if hK h a = 8 then actGo (pc + 1) Ls (.int (Int32.ofNat (hN h a)) :: s) h else none
  | .retAddr _ :: s => if lw = true then actGo (pc + 1) Ls (.int (Int32.ofNat L) :: s) h else none
  | _ => none
def iast (pc : Nat) (Ls st : List Value) (h : AH) : Option Act := match st with
  | .int v :: .int i :: .ref a :: s => if hK h a = 8 ∧ inA i (hN h a) = true then actGo (pc + 1) Ls s (sA h a i.toNatClampNeg v) else none
  | _ => none
def lald (pc : Nat) (Ls st : List Value) (h : AH) : Option Act := match st with
  | .int i :: .ref a :: s => if hK h a = 12 ∧ inA i (hN h a) = true then actGo (pc + 1) Ls (.long (hL h a i.toNatClampNeg) :: s) h else none
  | _ => none
def last (pc : Nat) (Ls st : List Value) (h : AH) : Option Act := match st with
  | .long v :: .int i :: .ref a :: s => if hK h a = 12 ∧ inA i (hN h a) = true then actGo (pc + 1) Ls s (sL h a i.toNatClampNeg v) else none
  | _ => none
def rowK (k : Nat) : Nat := match k with
  | 9 => 0
  | 10 => 2
  | _ => 5
def aald (pc : Nat) (Ls st : List Value) (h : AH) : Option Act := match st with
  | .int i :: .ref a :: s => if (hK h a = 9 ∨ hK h a = 10 ∨ hK h a = 11) ∧ inA i (hN h a) = true then (match hQ h a i.toNatClampNeg with
      | some j => actGo (pc + 1) Ls (.ref j :: s) h
      | none => none) else none
  | _ => none
def aast (pc : Nat) (Ls st : List Value) (h : AH) : Option Act := match st with
  | .ref v :: .int i :: .ref a :: s => if (hK h a = 9 ∨ hK h a = 10 ∨ hK h a = 11) ∧ inA i (hN h a) = true ∧ hK h v = rowK (hK h a) then actGo (pc + 1) Ls s (sQ h a i.toNatClampNeg v) else none
  | _ => none
/-- making: an object, or an exception with a text, thrown -/
def newO (m : MD) (i pc : Nat) (Ls st : List Value) (h : AH) : Option Act := match nRes (mC m) i with
  | some k => actGo (pc + 3) Ls (.ref (hn h) :: st) (nw h k 0 (cN k))
  | none => match decode (mB m) (pc + 3), decode (mB m) (pc + 4) with
    | .ok (.dup, 1), .ok (.ldc is, 2) => match decode (mB m) (pc + 6), decode (mB m) (pc + 9) with
      | .ok (.invokespecial ic, 3), .ok (.athrow, 1) => match xRes i ic with
        | some E => if mC m = 6 ∧ (sRT.any (fun q => q.1 == is)) = true ∧ mV m = 8 ∧ mH m = [] ∧ st = [] then some (.inr (.inr (.inr (E, bump h)))) else none
        | none => none
      | _, _ => none
    | .ok (.dup, 1), .ok (.ldc_w is, 3) => match decode (mB m) (pc + 7), decode (mB m) (pc + 10) with
      | .ok (.invokespecial ic, 3), .ok (.athrow, 1) => match xRes i ic with
        | some E => if mC m = 6 ∧ (sRT.any (fun q => q.1 == is)) = true ∧ mV m = 8 ∧ mH m = [] ∧ st = [] then some (.inr (.inr (.inr (E, bump h)))) else none
        | none => none
      | _, _ => none
    | _, _ => none
def newA (t : ArrayType) (pc : Nat) (Ls st : List Value) (h : AH) : Option Act := match t, st with
  | .int, .int n :: s => if 0 ≤ n ∧ n ≤ 10000 then actGo (pc + 2) Ls (.ref (hn h) :: s) (nw h 8 n.toNatClampNeg n.toNatClampNeg) else none
  | .long, .int n :: s => if 0 ≤ n ∧ n ≤ 10000 then actGo (pc + 2) Ls (.ref (hn h) :: s) (nw h 12 n.toNatClampNeg n.toNatClampNeg) else none
  | _, _ => none
def newQ (m : MD) (i pc : Nat) (Ls st : List Value) (h : AH) : Option Act := match st, qRes (mC m) i with
  | .int n :: s, some k => if 0 ≤ n ∧ n ≤ 10000 then actGo (pc + 3) Ls (.ref (hn h) :: s) (nw h k n.toNatClampNeg n.toNatClampNeg) else none
  | _, _ => none
def wds (s : List Value) : Nat := (s.map fun v => v.category).sum
/-- a call with n arguments popped off; its receiver with them where there is one -/
def clS (m : MD) (y : MD) (mode n : Nat) (st : List Value) (h : AH) : Option Act :=
  if mV y < mV m ∧ wds (st.drop n) ≤ 8 ∧ n ≤ st.length ∧ wds (st.take n) ≤ mM y then (if mode = 0 ∨ mode = 3 ∨ mode = 6 then some (.inr (.inr (.inl (y, (st.take n).reverse, st.drop n)))) else none) else none
def clV (m : MD) (y : MD) (n : Nat) (st : List Value) (h : AH) : Option Act :=
  match st.drop n with
  | .ref a :: rest => if mV y < mV m ∧ wds rest ≤ 8 ∧ n ≤ st.length ∧ wds (st.take n) + 1 ≤ mM y ∧ hK h a = mC y ∧ mC y < 8 then some (.inr (.inr (.inl (y, .ref a :: (st.take n).reverse, rest)))) else none
  | _ => none
def copy5 (m : MD) (pc : Nat) (Ls st : List Value) (h : AH) : Option Act := match st with
  | .int n :: .int dp :: .ref d :: .int sp :: .ref a :: s => if mV m ≠ 0 ∧ wds s ≤ 8 ∧ hK h a = 8 ∧ hK h d = 8 ∧ 0 ≤ sp ∧ 0 ≤ dp ∧ 0 ≤ n ∧ sp.toNatClampNeg + n.toNatClampNeg ≤ hN h a ∧ dp.toNatClampNeg + n.toNatClampNeg ≤ hN h d then
      actGo (pc + 3) Ls s (cpA h a sp.toNatClampNeg d dp.toNatClampNeg n.toNatClampNeg) else none
  | _ => none
def min9 (m : MD) (pc : Nat) (Ls st : List Value) (h : AH) : Option Act := match st with
  | .int y :: .int x :: s => if mV m ≠ 0 ∧ wds s ≤ 8 then actGo (pc + 3) Ls (.int (if y < x then y else x) :: s) h else none
  | _ => none
def invS (m : MD) (i pc : Nat) (Ls st : List Value) (h : AH) : Option Act := match mRes (mC m) i with
  | some (y, mode, n) => if mode = 8 then copy5 m pc Ls st h else if mode = 9 then min9 m pc Ls st h else clS m y mode n st h
  | none => none
def invV (m : MD) (i : Nat) (st : List Value) (h : AH) : Option Act := match mRes (mC m) i with
  | some (y, mode, n) => if mode = 1 ∨ mode = 5 then clV m y n st h else none
  | none => none
def invI (m : MD) (i pc : Nat) (Ls st : List Value) (h : AH) : Option Act := match mRes (mC m) i with
  | some (y, mode, n) => if mode = 7 then (match st with
      | .ref _ :: s => if mV m ≠ 0 ∧ wds s ≤ 8 then actGo (pc + 3) Ls s h else none
      | _ => none) else if mode = 2 ∨ mode = 4 then clV m y n st h else none
  | none => none
def retI (m : MD) (st : List Value) (h : AH) : Option Act := match st with
  | [.int v] => if mR m = some .int ∨ (mR m = some .boolean ∧ (v = 0 ∨ v = 1)) then some (.inr (.inl (some (.int v), h))) else none
  | _ => none
def tswT (pc : Nat) (d lo hi : Int) (offs : Array Int) (x : Int32) : Option Int := if x.toInt < lo ∨ hi < x.toInt then some d else offs[(x.toInt - lo).toNat]?
def stepI (m : MD) (pc : Nat) (Ls st : List Value) (h : AH) (i : Instr) (len : Nat) : Option Act := match i, len with
  | .iload_n k, 1 => ldI k 1 pc Ls st h
  | .iload k, 2 => ldI k 2 pc Ls st h
  | .aload_n k, 1 => ldA k 1 pc Ls st h
  | .aload k, 2 => ldA k 2 pc Ls st h
  | .lload_n k, 1 => ldL k 1 pc Ls st h
  | .lload k, 2 => ldL k 2 pc Ls st h
  | .dload k, 2 => ldD k 2 pc Ls st h
  | .istore_n k, 1 => stI (mM m) k 1 pc Ls st h
  | .istore k, 2 => stI (mM m) k 2 pc Ls st h
  | .astore_n k, 1 => stA (mM m) k 1 pc Ls st h
  | .astore k, 2 => stA (mM m) k 2 pc Ls st h
  | .lstore_n k, 1 => stL (mM m) k 1 pc Ls st h
  | .lstore k, 2 => stL (mM m) k 2 pc Ls st h
  | .dstore k, 2 => stD (mM m) k 2 pc Ls st h
  | .iconst n, 1 => actGo (pc + 1) Ls (.int (Int32.ofInt n) :: st) h
  | .bipush n, 2 => actGo (pc + 2) Ls (.int (Int8.ofInt n).toInt32 :: st) h
  | .sipush n, 3 => actGo (pc + 3) Ls (.int (Int16.ofInt n).toInt32 :: st) h
  | .dconst k, 1 => if k = 1 then actGo (pc + 1) Ls (.double FP.dconst1 :: st) h else if k = 0 then actGo (pc + 1) Ls (.double FP.dconst0 :: st) h else none
  | .ldc j, 2 => match iRes (mC m) j with
    | some v => actGo (pc + 2) Ls (.int v :: st) h
    | none => none
  | .ldc_w j, 3 => match iRes (mC m) j with
    | some v => actGo (pc + 3) Ls (.int v :: st) h
    | none => none
  | .ldc2_w j, 3 => match lRes (mC m) j with
    | some v => actGo (pc + 3) Ls (.long v :: st) h
    | none => none
  | .getfield j, 3 => getF (mC m) j pc Ls st h
  | .putfield j, 3 => putF m j pc Ls st h
  | .iaload, 1 => iald L xs (mC m == 8) pc Ls st h
  | .iastore, 1 => iast pc Ls st h
  | .laload, 1 => lald pc Ls st h
  | .lastore, 1 => last pc Ls st h
  | .aaload, 1 => aald pc Ls st h
  | .aastore, 1 => aast pc Ls st h
  | .arraylength, 1 => alen L (mC m == 8) pc Ls st h
  | .iadd, 1 => op2 (fun x y => x + y) pc Ls st h
  | .isub, 1 => op2 (fun x y => x - y) pc Ls st h
  | .imul, 1 => op2 (fun x y => x * y) pc Ls st h
  | .iand, 1 => op2 (fun x y => x &&& y) pc Ls st h
  | .ior, 1 => op2 (fun x y => x ||| y) pc Ls st h
  | .ixor, 1 => op2 (fun x y => x ^^^ y) pc Ls st h
  | .ishl, 1 => op2 (fun x y => x <<< (y &&& 31)) pc Ls st h
  | .ishr, 1 => op2 (fun x y => x >>> (y &&& 31)) pc Ls st h
  | .iushr, 1 => op2 (fun x y => (x.toUInt32 >>> (y.toUInt32 &&& Int32.toUInt32 31)).toInt32) pc Ls st h
  | .idiv, 1 => match st with
    | .int y :: .int x :: s => if y = 0 then none else actGo (pc + 1) Ls (.int (x / y) :: s) h
    | _ => none
  | .irem, 1 => match st with
    | .int y :: .int x :: s => if y = 0 then none else actGo (pc + 1) Ls (.int (x - x / y * y) :: s) h
    | _ => none
  | .ineg, 1 => match st with
    | .int x :: s => actGo (pc + 1) Ls (.int (-x) :: s) h
    | _ => none
  | .ladd, 1 => opL (fun x y => x + y) pc Ls st h
  | .lmul, 1 => opL (fun x y => x * y) pc Ls st h
  | .i2l, 1 => match st with
    | .int x :: s => actGo (pc + 1) Ls (.long x.toInt64 :: s) h
    | _ => none
  | .i2d, 1 => match st with
    | .int x :: s => actGo (pc + 1) Ls (.double (FP.i2d x) :: s) h
    | _ => none
  | .lcmp, 1 => match st with
    | .long y :: .long x :: s => actGo (pc + 1) Ls (.int (lg_cmp x y) :: s) h
    | _ => none
  | .dcmp o, 1 => match st with
    | .double y :: .double x :: s => actGo (pc + 1) Ls (.int (Op.cmpValue (FP.dcmp x y) o) :: s) h
    | _ => none
  | .ddiv, 1 => match st with
    | .double y :: .double x :: s => if FP.ddiv x y &&& 0x7fffffffffffffff ≤ 0x7ff0000000000000 then actGo (pc + 1) Ls (.double (FP.ddiv x y) :: s) h else none
    | _ => none
  | .dup, 1 => match st with
    | v :: s => if v.category = 1 then actGo (pc + 1) Ls (v :: v :: s) h else none
    | _ => none
  | .dup2, 1 => match st with
    | v :: w :: s => if v.category = 1 ∧ w.category = 1 then actGo (pc + 1) Ls (v :: w :: v :: w :: s) h else none
    | _ => none
  | .pop, 1 => match st with
    | v :: s => if v.category = 1 then actGo (pc + 1) Ls s h else none
    | _ => none
  | .iinc k n, 3 => match Ls[k]? with
    | some (.int x) => if k < mM m ∧ catOK Ls k = true then actGo (pc + 3) (Ls.set k (.int (x + Int32.ofInt n))) st h else none
    | _ => none
  | .ifCond c o, 3 => match st with
    | .int x :: s => if jok pc o = true then actGo (if cmpI c x 0 = true then jmp pc o else pc + 3) Ls s h else none
    | _ => none
  | .if_icmp c o, 3 => match st with
    | .int y :: .int x :: s => if jok pc o = true then actGo (if cmpI c x y = true then jmp pc o else pc + 3) Ls s h else none
    | _ => none
  | .goto o, 3 => if jok pc o = true then actGo (jmp pc o) Ls st h else none
  | .tableswitch d lo hi offs, _ => match st with
    | .int x :: s => match tswT pc d lo hi offs x with
      | some o => if jok pc o = true then actGo (jmp pc o) Ls s h else none
      | none => none
    | _ => none
  | .lookupswitch d ps, _ => match st with
    | .int x :: s => if (ps.toList.zip (ps.toList.drop 1)).all (fun q => decide (q.1.1 < q.2.1)) = true ∧ jok pc (Op.lookupswitch.offset ps.toList d x.toInt) = true then actGo (jmp pc (Op.lookupswitch.offset ps.toList d x.toInt)) Ls s h else none
    | _ => none
  | .new j, 3 => newO m j pc Ls st h
  | .newarray t, 2 => newA t pc Ls st h
  | .anewarray j, 3 => newQ m j pc Ls st h
  | .invokestatic j, 3 => invS m j pc Ls st h
  | .invokevirtual j, 3 => invV m j st h
  | .invokespecial j, 3 => invI m j pc Ls st h
  | .ireturn, 1 => retI m st h
  | .lreturn, 1 => match st with
    | [.long v] => if mR m = some .long then some (.inr (.inl (some (.long v), h))) else none
    | _ => none
  | .dreturn, 1 => match st with
    | [.double v] => if mR m = some .double then some (.inr (.inl (some (.double v), h))) else none
    | _ => none
  | .return_, 1 => if mR m = none ∧ st = [] then some (.inr (.inl (none, h))) else none
  | _, _ => none
def stp (m : MD) (pc : Nat) (Ls st : List Value) (h : AH) : Option Act := match decode (mB m) pc with
  | .ok q => stepI L xs m pc Ls st h q.1 q.2
  | .error _ => none
/-- where a throw is caught: the first row of the table that covers and names the class -/
def hfind (pc : Nat) (E : String) : List (Nat × Nat × Nat × Nat) → Option Nat
  | [] => none
  | q :: t => if q.1 ≤ pc ∧ pc < q.2.1 then (match eRes q.2.2.2 with
    | some E' => if E' = E then some q.2.2.1 else hfind pc E t
    | none => none) else hfind pc E t
def hstep0 (m : MD) (pc : Nat) (Ls : List Value) (E : String) : Option (Nat × List Value) := match hfind pc E (mH m) with
  | none => none
  | some q => if mC m = 8 then (match decode (mB m) q with
    | .ok (.astore_n k, 1) => if (k : Nat) < mM m ∧ catOK Ls k = true then some (q + 1, Ls.set k .null) else none
    | .ok (.astore k, 2) => if k < mM m ∧ catOK Ls k = true then some (q + 2, Ls.set k .null) else none
    | _ => none) else none
def isV (m : MD) (pc : Nat) : Bool := match decode (mB m) pc with
  | .ok (.invokevirtual _, 3) => true
  | _ => false
def hstep (m : MD) (pc : Nat) (Ls : List Value) (E : String) : Option (Nat × List Value) := if isV m pc = true then hstep0 m pc Ls E else none
/-- what a call's outcome goes on with -/
def kont (r : Option Res) (k : Option Value → AH → Option Res) (kx : String → AH → Option Res) : Option Res := match r with
  | some (.inl (v, h)) => k v h
  | some (.inr (E, h)) => kx E h
  | none => none
def kx {α : Type} (q : Option (Nat × List Value)) (k : Nat → List Value → Option α) : Option α := match q with
  | some (pc, Ls) => k pc Ls
  | none => none
def run : Nat → MD → Nat → List Value → List Value → AH → Option Res
  | 0, _, _, _, _, _ => none
  | n + 1, m, pc, Ls, st, h => match stp L xs m pc Ls st h with
    | none => none
    | some (.inl q) => run n m q.1 q.2.1 q.2.2.1 q.2.2.2
    | some (.inr (.inl q)) => some (.inl q)
    | some (.inr (.inr (.inl q))) => kont (run n q.1 0 (entL q.2.1 (mM q.1)) [] h) (fun v h' => run n m (pc + 3) Ls (v.toList ++ q.2.2) h') (fun E h' => kx (hstep m pc Ls E) (fun pc' Ls' => run n m pc' Ls' [] h'))
    | some (.inr (.inr (.inr q))) => some (.inr q)
theorem kont_mono {r r' : Option Res} {k k' : Option Value → AH → Option Res} {x x' : String → AH → Option Res} {z : Res} (h : kont r k x = some z) (hr : ∀ w, r = some w → r' = some w) (hk : ∀ v g, k v g = some z → k' v g = some z) (hx : ∀ E g, x E g = some z → x' E g = some z) : kont r' k' x' = some z := by
  cases r with
  | none => cases h
  | some w =>
    rw [hr w rfl]
    rcases w with ⟨v, g⟩ | ⟨E, g⟩
    · exact hk v g h
    · exact hx E g h
theorem run_succ : ∀ (n : Nat) (m : MD) (pc : Nat) (Ls st : List Value) (h : AH) (r : Res), run L xs n m pc Ls st h = some r → run L xs (n + 1) m pc Ls st h = some r
  | 0, _, _, _, _, _, _, e => by cases e
  | n + 1, m, pc, Ls, st, h, r, e => by
    unfold run at e ⊢
    cases hs : stp L xs m pc Ls st h with
    | none => rw [hs] at e; cases e
    | some a =>
      rw [hs] at e
      rcases a with q | q | q | q
      · exact run_succ n _ _ _ _ _ _ e
      · exact e
      · refine kont_mono e (fun w hw => run_succ n _ _ _ _ _ _ hw) (fun v g hv => run_succ n _ _ _ _ _ _ hv) (fun E g hv => ?_)
        cases hh : hstep m pc Ls E with
        | none => simp only [hh, kx] at hv; cases hv
        | some z => simp only [hh, kx] at hv ⊢; exact run_succ n _ _ _ _ _ _ hv
      · exact e
theorem run_le {n k : Nat} (hnk : n ≤ k) {m : MD} {pc : Nat} {Ls st : List Value} {h : AH} {r : Res} (e : run L xs n m pc Ls st h = some r) : run L xs k m pc Ls st h = some r := by
  induction hnk with
  | refl => exact e
  | step _ ih => exact run_succ L xs _ _ _ _ _ _ _ ih
theorem run_det {n k : Nat} {m : MD} {pc : Nat} {Ls st : List Value} {h : AH} {r r' : Res} (e : run L xs n m pc Ls st h = some r) (e' : run L xs k m pc Ls st h = some r') : r = r' := by
  have h1 := run_le L xs (Nat.le_max_left n k) e
  have h2 := run_le L xs (Nat.le_max_right n k) e'
  exact Option.some.inj (h1.symm.trans h2)
/-- the value of a run -/
noncomputable def ev (m : MD) (pc : Nat) (Ls st : List Value) (h : AH) : Option Res := by
  classical exact if H : ∃ r n, run L xs n m pc Ls st h = some r then some H.choose else none
theorem ev_iff {m : MD} {pc : Nat} {Ls st : List Value} {h : AH} {r : Res} : ev L xs m pc Ls st h = some r ↔ ∃ n, run L xs n m pc Ls st h = some r := by
  classical
  unfold ev
  by_cases H : ∃ r n, run L xs n m pc Ls st h = some r
  · rw [dif_pos H]
    obtain ⟨n, hn⟩ := H.choose_spec
    constructor
    · intro e
      cases e
      exact ⟨n, hn⟩
    · rintro ⟨k, hk⟩
      rw [run_det L xs hn hk]
  · rw [dif_neg H]
    constructor
    · intro e; cases e
    · rintro ⟨k, hk⟩
      exact absurd ⟨r, k, hk⟩ H
theorem ev_go {m : MD} {pc : Nat} {Ls st : List Value} {h : AH} {q : Nat × List Value × List Value × AH} (hs : stp L xs m pc Ls st h = some (.inl q)) : ev L xs m pc Ls st h = ev L xs m q.1 q.2.1 q.2.2.1 q.2.2.2 := by
  apply Option.ext
  intro r
  have e1 := ev_iff (L := L) (xs := xs) (m := m) (pc := pc) (Ls := Ls) (st := st) (h := h) (r := r)
  have e2 := ev_iff (L := L) (xs := xs) (m := m) (pc := q.1) (Ls := q.2.1) (st := q.2.2.1) (h := q.2.2.2) (r := r)
  rw [e1, e2]
  constructor
  · rintro ⟨n, hn⟩
    cases n with
    | zero => cases hn
    | succ n =>
      unfold run at hn
      rw [hs] at hn
      exact ⟨n, hn⟩
  · rintro ⟨n, hn⟩
    refine ⟨n + 1, ?_⟩
    unfold run
    rw [hs]
    exact hn
theorem ev_ret {m : MD} {pc : Nat} {Ls st : List Value} {h : AH} {q : Option Value × AH} (hs : stp L xs m pc Ls st h = some (.inr (.inl q))) : ev L xs m pc Ls st h = some (.inl q) := by
  rw [ev_iff]
  refine ⟨1, ?_⟩
  unfold run
  rw [hs]
theorem ev_thr {m : MD} {pc : Nat} {Ls st : List Value} {h : AH} {q : String × AH} (hs : stp L xs m pc Ls st h = some (.inr (.inr (.inr q)))) : ev L xs m pc Ls st h = some (.inr q) := by
  rw [ev_iff]
  refine ⟨1, ?_⟩
  unfold run
  rw [hs]
theorem ev_call {m : MD} {pc : Nat} {Ls st : List Value} {h : AH} {y : MD} {vs rest : List Value} (hs : stp L xs m pc Ls st h = some (.inr (.inr (.inl (y, vs, rest))))) :
    ev L xs m pc Ls st h = kont (ev L xs y 0 (entL vs (mM y)) [] h) (fun v h' => ev L xs m (pc + 3) Ls (v.toList ++ rest) h') (fun E h' => kx (hstep m pc Ls E) (fun pc' Ls' => ev L xs m pc' Ls' [] h')) := by
  apply Option.ext
  intro r
  rw [ev_iff]
  constructor
  · rintro ⟨n, hn⟩
    cases n with
    | zero => cases hn
    | succ n =>
      unfold run at hn
      rw [hs] at hn
      refine kont_mono hn (fun w hw => (ev_iff (L := L) (xs := xs)).mpr ⟨n, hw⟩) (fun v g hv => (ev_iff (L := L) (xs := xs)).mpr ⟨n, hv⟩) (fun E g hv => ?_)
      cases hh : hstep m pc Ls E with
      | none => simp only [hh, kx] at hv; cases hv
      | some z => simp only [hh, kx] at hv ⊢; exact (ev_iff (L := L) (xs := xs)).mpr ⟨n, hv⟩
  · intro e
    cases h1 : ev L xs y 0 (entL vs (mM y)) [] h with
    | none => rw [h1] at e; cases e
    | some w =>
      rw [h1] at e
      obtain ⟨n1, hn1⟩ := (ev_iff L xs).mp h1
      rcases w with ⟨v, g⟩ | ⟨E, g⟩
      · obtain ⟨n2, hn2⟩ := (ev_iff L xs).mp (show ev L xs m (pc + 3) Ls (v.toList ++ rest) g = some r from e)
        refine ⟨max n1 n2 + 1, ?_⟩
        unfold run
        rw [hs]
        show kont (run L xs (max n1 n2) y 0 (entL vs (mM y)) [] h) _ _ = _
        rw [run_le L xs (Nat.le_max_left n1 n2) hn1]
        exact run_le L xs (Nat.le_max_right n1 n2) hn2
      · cases hh : hstep m pc Ls E with
        | none => simp only [hh, kont, kx] at e; cases e
        | some z =>
          simp only [hh, kont, kx] at e
          obtain ⟨n2, hn2⟩ := (ev_iff L xs).mp (show ev L xs m z.1 z.2 [] g = some r from e)
          refine ⟨max n1 n2 + 1, ?_⟩
          unfold run
          rw [hs]
          show kont (run L xs (max n1 n2) y 0 (entL vs (mM y)) [] h) _ _ = _
          rw [run_le L xs (Nat.le_max_left n1 n2) hn1]
          simp only [kont, hh, kx]
          exact run_le L xs (Nat.le_max_right n1 n2) hn2
end
end
section
/-! WHAT AN ABSTRACT STATE SAYS OF THE MACHINE, and the rows: an abstract step is a step of the machine -/
abbrev tysOf (ca : Nat → ClassId) : List (ClassId × FieldType) := [(ca 0, .int), (ca 1, .object RX0), (ca 2, .object RX2), (ca 3, .object RX5), (ca 4, .long)]
def tv (A : Nat → Nat) (b : Nat) (v : Value) : Value := match v with
  | .ref i => .ref (A i)
  | .retAddr _ => .ref b
  | w => w
def fvl (A : Nat → Nat) (h : AH) (k i s : Nat) : Value := if isRf k s then va_rf ((hR h (16 * k + s) i).map A) else .int (hI h (16 * k + s) i)
def cont (ca : Nat → ClassId) (A : Nat → Nat) (h : AH) (i : Nat) : va_E :=
  if hK h i < 8 then .inr (hK h i, (List.range (cN (hK h i))).map (fvl A h (hK h i) i))
  else if hK h i = 8 then .inl (ca 0, hN h i, .inl (hA h i))
  else if hK h i = 12 then .inl (ca 4, hN h i, .inr (.inl (hL h i)))
  else .inl (ca (hK h i - 8), hN h i, .inr (.inr (.inr (.inr (fun j => (hQ h i j).map A)))))
def wld (ca : Nat → ClassId) (A : Nat → Nat) (h : AH) : va_W := (List.range (hn h)).map fun i => (A i, cont ca A h i)
theorem wld_at {ca : Nat → ClassId} {A : Nat → Nat} {h : AH} {i : Nat} (hi : i < hn h) : (wld ca A h)[i]? = some (A i, cont ca A h i) := by
  unfold wld
  rw [List.getElem?_map, List.getElem?_range hi]
  rfl
theorem wld_len {ca : Nat → ClassId} {A : Nat → Nat} {h : AH} : (wld ca A h).length = hn h := by simp [wld]
theorem wld_set {ca : Nat → ClassId} {A : Nat → Nat} {h h' : AH} {i : Nat} {e : va_E} (hn' : hn h' = hn h) (he : e = cont ca A h' i) (hne : ∀ j, j ≠ i → cont ca A h' j = cont ca A h j) : (wld ca A h).set i (A i, e) = wld ca A h' := by
  subst he
  apply List.ext_getElem?
  intro j
  rw [List.getElem?_set, wld_len]
  by_cases hj : i = j
  · subst hj
    rw [if_pos rfl]
    by_cases hl : i < hn h
    · rw [if_pos hl, wld_at (by rw [hn']; exact hl)]
    · rw [if_neg hl, List.getElem?_eq_none (by rw [wld_len, hn']; omega)]
  · rw [if_neg hj]
    by_cases hl : j < hn h
    · rw [wld_at hl, wld_at (by rw [hn']; exact hl), hne j (fun z => hj z.symm)]
    · rw [List.getElem?_eq_none (by rw [wld_len]; omega), List.getElem?_eq_none (by rw [wld_len, hn']; omega)]
theorem wld_push {ca : Nat → ClassId} {A A' : Nat → Nat} {h h' : AH} {q : Nat} {e : va_E} (hn' : hn h' = hn h + 1) (hA : ∀ j, j < hn h → A' j = A j) (hq : A' (hn h) = q) (he : e = cont ca A' h' (hn h)) (hne : ∀ j, j < hn h → cont ca A' h' j = cont ca A h j) : wld ca A h ++ [(q, e)] = wld ca A' h' := by
  unfold wld
  rw [hn', List.range_succ, List.map_append]
  congr 1
  · apply List.map_congr_left
    intro j hj
    rw [List.mem_range] at hj
    rw [hA j hj, hne j hj]
  · rw [he, ← hq]
    rfl
/-- well-formed: a reference names a thing that is there -/
def WFh (h : AH) : Prop := (∀ F i j, hR h F i = some j → j < hn h) ∧ ∀ a k j, hQ h a k = some j → j < hn h
def WFl (n : Nat) (l : List Value) : Prop := ∀ i, Value.ref i ∈ l → i < n
def lvO (A : Nat → Nat) (b : Nat) (Ls : List Value) : List (Nat × Value) := (List.range Ls.length).filterMap fun i => match (Ls[i]? : Option Value) with
  | some Value.null => none
  | some v => some (i, tv A b v)
  | none => none
theorem mem_lvO {A : Nat → Nat} {b : Nat} {Ls : List Value} {q : Nat × Value} : q ∈ lvO A b Ls ↔ ∃ v, Ls[q.1]? = some v ∧ v ≠ .null ∧ q.2 = tv A b v := by
  unfold lvO
  rw [List.mem_filterMap]
  constructor
  · rintro ⟨i, hi, he⟩
    split at he
    · cases he
    · rename_i v hv hl
      cases he
      refine ⟨v, hl, fun h => ?_, rfl⟩
      subst h
      exact hv rfl
    · cases he
  · rintro ⟨v, hv, hn, he⟩
    refine ⟨q.1, List.mem_range.mpr (List.getElem?_eq_some_iff.mp hv).1, ?_⟩
    rw [hv]
    obtain ⟨i, w⟩ := q
    dsimp only at he ⊢
    subst he
    cases v <;> first | rfl | exact absurd rfl hn
theorem lvO_at {A : Nat → Nat} {b n : Nat} {Ls : List Value} {ls : Array Slot} {i : Nat} {v : Value} (h : lv_has ls n (lvO A b Ls)) (hv : Ls[i]? = some v) (hn : v ≠ .null) : ls[i]? = some (.val (tv A b v)) := h.2.2 (i, tv A b v) (mem_lvO.mpr ⟨v, hv, hn, rfl⟩)
theorem lv_mono {ls : Array Slot} {n : Nat} {l l' : List (Nat × Value)} (h : lv_has ls n l) (hm : ∀ q ∈ l', q ∈ l) : lv_has ls n l' := ⟨h.1, h.2.1, fun q hq => h.2.2 q (hm q hq)⟩
theorem tv_cat (A : Nat → Nat) (b : Nat) (v : Value) : (tv A b v).category = v.category := by cases v <;> rfl
theorem catOK_spec {Ls : List Value} {i : Nat} (h : catOK Ls i = true) {j : Nat} {v : Value} (hj : j + 1 = i) (hv : Ls[j]? = some v) : v.category = 1 := by
  unfold catOK at h
  rw [Bool.or_eq_true, beq_iff_eq, beq_iff_eq] at h
  rcases h with h | h
  · omega
  · have e : i - 1 = j := by omega
    rw [e, List.getD_eq_getElem?_getD, hv] at h
    exact h
theorem lvO_set1 {A : Nat → Nat} {b : Nat} {Ls : List Value} {i : Nat} {v w : Value} (hc : catOK Ls i = true) (hw : w = .null ∨ tv A b w = v) : ∀ q ∈ lvO A b (Ls.set i w), q ∈ (i, v) :: (lvO A b Ls).filter (fun q => !(q.1 == i) && !(q.1 + 1 == i && q.2.category == 2)) := by
  intro q hq
  obtain ⟨u, h1, h2, h3⟩ := mem_lvO.mp hq
  rw [List.getElem?_set] at h1
  by_cases hi : i = q.1
  · rw [if_pos hi] at h1
    split at h1
    · cases h1
      rcases hw with hw | hw
      · exact absurd hw h2
      · have : q = (i, v) := by rw [← hw, ← h3, hi]
        rw [this]; exact List.mem_cons_self
    · cases h1
  · rw [if_neg hi] at h1
    refine List.mem_cons_of_mem _ (List.mem_filter.mpr ⟨mem_lvO.mpr ⟨u, h1, h2, h3⟩, ?_⟩)
    have e1 : (q.1 == i) = false := by rw [beq_eq_false_iff_ne]; exact fun z => hi z.symm
    have e2 : (q.1 + 1 == i && q.2.category == 2) = false := by
      rw [Bool.and_eq_false_iff, beq_eq_false_iff_ne, beq_eq_false_iff_ne]
      by_cases hj : q.1 + 1 = i
      · right
        rw [h3, tv_cat, catOK_spec hc hj h1]
        decide
      · left; exact hj
    rw [e1, e2]; rfl
theorem lvO_set2 {A : Nat → Nat} {b : Nat} {Ls : List Value} {i : Nat} {v w : Value} (hc : catOK Ls i = true) (hw : tv A b w = v) : ∀ q ∈ lvO A b ((Ls.set i w).set (i + 1) .null), q ∈ (i, v) :: (lvO A b Ls).filter (fun q => !(q.1 == i) && (!(q.1 == i + 1) && !(q.1 + 1 == i && q.2.category == 2))) := by
  intro q hq
  obtain ⟨u, h1, h2, h3⟩ := mem_lvO.mp hq
  rw [List.getElem?_set] at h1
  by_cases hi1 : i + 1 = q.1
  · rw [if_pos hi1] at h1
    split at h1
    · cases h1; exact absurd rfl h2
    · cases h1
  · rw [if_neg hi1] at h1
    have hq1 : q ∈ lvO A b (Ls.set i w) := mem_lvO.mpr ⟨u, h1, h2, h3⟩
    have := lvO_set1 (v := v) hc (Or.inr hw) q hq1
    rcases List.mem_cons.mp this with h | h
    · rw [h]; exact List.mem_cons_self
    · obtain ⟨h4, h5⟩ := List.mem_filter.mp h
      refine List.mem_cons_of_mem _ (List.mem_filter.mpr ⟨h4, ?_⟩)
      rw [Bool.and_eq_true] at h5 ⊢
      refine ⟨h5.1, ?_⟩
      rw [Bool.and_eq_true]
      refine ⟨?_, h5.2⟩
      rw [Bool.not_eq_true', beq_eq_false_iff_ne]
      exact fun z => hi1 z.symm
/-- what stays of the tables, and is no good word -/
def exL : List String := ["java/lang/IllegalArgumentException", "java/lang/IllegalStateException", "java/lang/IndexOutOfBoundsException"]
def declL : List MethodName := [⟨"java/lang/RuntimeException", "<init>", "()V"⟩, ⟨"java/lang/RuntimeException", "<init>", "(Ljava/lang/String;)V"⟩, ⟨"java/lang/Exception", "<init>", "()V"⟩, ⟨"java/lang/Exception", "<init>", "(Ljava/lang/String;)V"⟩, ⟨"java/lang/Throwable", "<init>", "()V"⟩, ⟨"java/lang/Throwable", "<init>", "(Ljava/lang/String;)V"⟩]
/-- no class of an exception that the law catches -/
def exN : List String := []
def GP (s : State) : Prop := (∀ q ∈ nestL, va_Nw (.methodLinkNest q.1 q.2.1 q.2.2 "CrossingPosts") s) ∧ (∀ E ∈ exL, va_Nw (.castable E E) s) ∧ (∀ x ∈ declL, va_Nw (.declares x) s) ∧ (∀ E ∈ exL, ∀ E' ∈ exN, E ≠ E' → va_Nc E E' s) ∧ (∀ q ∈ sRT, ∃ sa, vk_R RX6 q.1 q.2 sa s) ∧ ∀ C ∈ [RX0, RX2, RX5], va_AO C s
theorem GP.warm {s U : State} (hW : s.WarmedH U.vm) (h : GP s) : GP U := by
  obtain ⟨h1, h2, h3, h4, h5, h6⟩ := h
  refine ⟨fun q hq => (h1 q hq).warmM hW, fun E hE => (h2 E hE).warmC hW, fun x hx => (h3 x hx).warmD hW, fun E hE E' hE' hne => (h4 E hE E' hE' hne).moved hW.alike, fun q hq => ?_, fun C hC => (h6 C hC).moved hW.alike⟩
  obtain ⟨sa, ha⟩ := h5 q hq
  exact ⟨sa, ha.warm hW⟩
def ZQ (As : Nat → Prop) (s : State) (H : Heap) : Prop := vx_Zq Bundle.tN "UNASSIGNED_STACK" Bundle.steD As s H ∧ vx_Zq Bundle.tN "SUPPRESSED_SENTINEL" Bundle.listD As s H
/-- a method's frame, as far as the run doesn't change it -/
def Cx (l : Launch) (L : Nat) (xs : Nat → Int32) (m : MD) (D : va_G) (ca : Nat → ClassId) (b : Nat) (As : Nat → Prop) (p : Program) (R : Room) (s : State) (mid : MethodId) (args : Array Value) (meth : Method) (c : Code) : Prop :=
  p.tables.exec = Jvm.exec ∧ c.code = mB m ∧ meth.sig.returnType = mR m ∧ c.maxLocals = mM m ∧ s.vm.findClass (mN m).cls = some mid.cls ∧ (∀ w ∈ GW, w.before args s = true) ∧ meth.locks = false ∧ meth.name = (mN m).name ∧ c.exceptionTable.toList = tableOf (mH m) ∧ R.frames = mV m ∧ 35 * mV m ≤ R.locals ∧
  va_K D vwCl (tysOf ca) s ∧ GP s ∧ ZQ As s s.heap ∧ (∀ q : Nat, s.heap.size ≤ q → As q) ∧ (mC m = 8 → va_X b L xs s s.heap ∧ b < s.heap.size ∧ ¬ As b) ∧ (mN m).cls = ow (mC m) ∧ l.stackTraces = false
/-- where the walk stands in the heap -/
def Pos (D : va_G) (ca : Nat → ClassId) (A : Nat → Nat) (As : Nat → Prop) (s : State) (h : AH) (H : Heap) (locs : List Loc) (cells slots c0 s0 : Nat) : Prop :=
  va_P D vwCl (wld ca A h) H ∧ va_D As (wld ca A h) ∧ va_S As s.heap H locs ∧ cells + c0 = hc h ∧ slots + s0 = hs h
def retOK (b : ByteArray) (ret : Option FieldType) (pc : Nat) (v : Option Value) : Prop := match v with
  | none => decode b pc = .ok (.return_, 1) ∧ ret = none
  | some (.int x) => decode b pc = .ok (.ireturn, 1) ∧ (ret = some .int ∨ (ret = some .boolean ∧ (x = 0 ∨ x = 1)))
  | some (.long _) => decode b pc = .ok (.lreturn, 1) ∧ ret = some .long
  | some (.double _) => decode b pc = .ok (.dreturn, 1) ∧ ret = some .double
  | _ => False
def thrOK (m : MD) (pc : Nat) (E : String) : Prop := ∃ ik is ic tx, decode (mB m) pc = .ok (.new ik, 3) ∧ decode (mB m) (pc + 3) = .ok (.dup, 1) ∧ ((decode (mB m) (pc + 4) = .ok (.ldc is, 2) ∧ decode (mB m) (pc + 6) = .ok (.invokespecial ic, 3) ∧ decode (mB m) (pc + 9) = .ok (.athrow, 1)) ∨ (decode (mB m) (pc + 4) = .ok (.ldc_w is, 3) ∧ decode (mB m) (pc + 7) = .ok (.invokespecial ic, 3) ∧ decode (mB m) (pc + 10) = .ok (.athrow, 1))) ∧ xRes ik ic = some E ∧ (is, tx) ∈ sRT ∧ mC m = 6 ∧ mV m = 8 ∧ mH m = []
/-- the ends that a body owes -/
def Kr (m : MD) (D : va_G) (ca : Nat → ClassId) (As : Nat → Prop) (p : Program) (l : Launch) (e : Env) (R : Room) (s : State) (mid : MethodId) (args : Array Value) (below : List Frame) (meth : Method) (c : Code) (Q : State → Prop) (c0 s0 n0 : Nat) (A0 : Nat → Nat) (r : Res) : Prop :=
  (∀ (A : Nat → Nat) (H : Heap) (locs : List Loc) (cells slots pc : Nat) (ls : Array Slot) (v : Option Value) (h : AH), r = .inl (v, h) → (∀ i, i < n0 → A i = A0 i) → Pos D ca A As s h H locs cells slots c0 s0 → retOK (mB m) (mR m) pc v → W p l e R s mid args below meth c H locs cells slots Q (F0 mid pc ls v.toList)) ∧
  (∀ (A : Nat → Nat) (H : Heap) (locs : List Loc) (cells slots pc : Nat) (ls : Array Slot) (E : String) (h : AH), r = .inr (E, bump h) → (∀ i, i < n0 → A i = A0 i) → Pos D ca A As s h H locs cells slots c0 s0 → thrOK m pc E → ls.size = c.maxLocals → W p l e R s mid args below meth c H locs cells slots Q (F0 mid pc ls []))
def Sem (l : Launch) (L : Nat) (xs : Nat → Int32) (m : MD) (pc : Nat) (Ls st : List Value) (h : AH) (r : Res) : Prop :=
  ∀ (D : va_G) (ca : Nat → ClassId) (b : Nat) (As : Nat → Prop) (p : Program) (e : Env) (R : Room) (s : State) (mid : MethodId) (args : Array Value) (below : List Frame) (meth : Method) (c : Code) (Q : State → Prop) (c0 s0 n0 : Nat) (A0 : Nat → Nat),
    Cx l L xs m D ca b As p R s mid args meth c → Kr m D ca As p l e R s mid args below meth c Q c0 s0 n0 A0 r →
    ∀ (A : Nat → Nat) (H : Heap) (locs : List Loc) (cells slots : Nat) (ls : Array Slot), n0 ≤ hn h → (∀ i, i < n0 → A i = A0 i) → Pos D ca A As s h H locs cells slots c0 s0 →
      hc (rH r) ≤ R.cells + c0 → hs (rH r) ≤ R.slots + s0 → lv_has ls (mM m) (lvO A b Ls) →
      W p l e R s mid args below meth c H locs cells slots Q (F0 mid pc ls (st.map (tv A b)))
section
variable {l : Launch} {L : Nat} {xs : Nat → Int32} {m : MD} {pc pc' : Nat} {Ls st st' : List Value} {h : AH} {r : Res}
/-- an instruction that moves the operand stack alone -/
theorem Sem.pure (hrow : ∀ (D : va_G) (ca : Nat → ClassId) (b : Nat) (As : Nat → Prop) (p : Program) (e : Env) (R : Room) (s : State) (mid : MethodId) (args : Array Value) (below : List Frame) (meth : Method) (c : Code) (Q : State → Prop) (A : Nat → Nat) (H : Heap) (locs : List Loc) (cells slots : Nat) (ls : Array Slot),
    Cx l L xs m D ca b As p R s mid args meth c → lv_has ls (mM m) (lvO A b Ls) → va_S As s.heap H locs → W p l e R s mid args below meth c H locs cells slots Q (F0 mid pc' ls (st'.map (tv A b))) → W p l e R s mid args below meth c H locs cells slots Q (F0 mid pc ls (st.map (tv A b))))
    (k : Sem l L xs m pc' Ls st' h r) : Sem l L xs m pc Ls st h r := by
  intro D ca b As p e R s mid args below meth c Q c0 s0 n0 A0 hC hE A H locs cells slots ls h1 h2 h3 h4 h5 h6
  exact hrow D ca b As p e R s mid args below meth c Q A H locs cells slots ls hC h6 h3.2.2.1 (k D ca b As p e R s mid args below meth c Q c0 s0 n0 A0 hC hE A H locs cells slots ls h1 h2 h3 h4 h5 h6)
/-- an instruction that moves locals and stack -/
theorem Sem.loc {Ls' : List Value} (hrow : ∀ (D : va_G) (ca : Nat → ClassId) (b : Nat) (As : Nat → Prop) (p : Program) (e : Env) (R : Room) (s : State) (mid : MethodId) (args : Array Value) (below : List Frame) (meth : Method) (c : Code) (Q : State → Prop) (A : Nat → Nat) (H : Heap) (locs : List Loc) (cells slots : Nat) (ls : Array Slot),
    Cx l L xs m D ca b As p R s mid args meth c → lv_has ls (mM m) (lvO A b Ls) → (∀ ls' : Array Slot, lv_has ls' (mM m) (lvO A b Ls') → W p l e R s mid args below meth c H locs cells slots Q (F0 mid pc' ls' (st'.map (tv A b)))) → W p l e R s mid args below meth c H locs cells slots Q (F0 mid pc ls (st.map (tv A b))))
    (k : Sem l L xs m pc' Ls' st' h r) : Sem l L xs m pc Ls st h r := by
  intro D ca b As p e R s mid args below meth c Q c0 s0 n0 A0 hC hE A H locs cells slots ls h1 h2 h3 h4 h5 h6
  exact hrow D ca b As p e R s mid args below meth c Q A H locs cells slots ls hC h6 (fun ls' h6' => k D ca b As p e R s mid args below meth c Q c0 s0 n0 A0 hC hE A H locs cells slots ls' h1 h2 h3 h4 h5 h6')
end
end
section
/-! THE ROWS -/
section
variable {l : Launch} {L : Nat} {xs : Nat → Int32} {m : MD} {pc : Nat} {Ls st : List Value} {h : AH} {r : Res}
theorem Sem.read {st' : List Value} {pc' : Nat} (hrow : ∀ (D : va_G) (ca : Nat → ClassId) (b : Nat) (As : Nat → Prop) (p : Program) (e : Env) (R : Room) (s : State) (mid : MethodId) (args : Array Value) (below : List Frame) (meth : Method) (c : Code) (Q : State → Prop) (A : Nat → Nat) (H : Heap) (locs : List Loc) (cells slots : Nat) (ls : Array Slot),
    Cx l L xs m D ca b As p R s mid args meth c → ls.size = mM m → va_P D vwCl (wld ca A h) H → va_S As s.heap H locs → W p l e R s mid args below meth c H locs cells slots Q (F0 mid pc' ls (st'.map (tv A b))) → W p l e R s mid args below meth c H locs cells slots Q (F0 mid pc ls (st.map (tv A b))))
    (k : Sem l L xs m pc' Ls st' h r) : Sem l L xs m pc Ls st h r := by
  intro D ca b As p e R s mid args below meth c Q c0 s0 n0 A0 hC hE A H locs cells slots ls h1 h2 h3 h4 h5 h6
  exact hrow D ca b As p e R s mid args below meth c Q A H locs cells slots ls hC h6.1 h3.1 h3.2.2.1 (k D ca b As p e R s mid args below meth c Q c0 s0 n0 A0 hC hE A H locs cells slots ls h1 h2 h3 h4 h5 h6)
theorem Sem.heap {h' : AH} {st' : List Value} {pc' : Nat} (e1 : hn h' = hn h) (e2 : hc h' = hc h) (e3 : hs h' = hs h) (hrow : ∀ (D : va_G) (ca : Nat → ClassId) (b : Nat) (As : Nat → Prop) (p : Program) (e : Env) (R : Room) (s : State) (mid : MethodId) (args : Array Value) (below : List Frame) (meth : Method) (c : Code) (Q : State → Prop) (A : Nat → Nat) (H : Heap) (locs : List Loc) (cells slots : Nat) (ls : Array Slot),
    Cx l L xs m D ca b As p R s mid args meth c → ls.size = mM m → va_P D vwCl (wld ca A h) H → va_D As (wld ca A h) → va_S As s.heap H locs → (∀ (H1 : Heap) (locs1 : List Loc), va_P D vwCl (wld ca A h') H1 → va_D As (wld ca A h') → va_S As s.heap H1 locs1 → W p l e R s mid args below meth c H1 locs1 cells slots Q (F0 mid pc' ls (st'.map (tv A b)))) → W p l e R s mid args below meth c H locs cells slots Q (F0 mid pc ls (st.map (tv A b))))
    (k : Sem l L xs m pc' Ls st' h' r) : Sem l L xs m pc Ls st h r := by
  intro D ca b As p e R s mid args below meth c Q c0 s0 n0 A0 hC hE A H locs cells slots ls h1 h2 h3 h4 h5 h6
  exact hrow D ca b As p e R s mid args below meth c Q A H locs cells slots ls hC h6.1 h3.1 h3.2.1 h3.2.2.1 (fun H1 locs1 p1 p2 p3 => k D ca b As p e R s mid args below meth c Q c0 s0 n0 A0 hC hE A H1 locs1 cells slots ls (by rw [e1]; exact h1) h2 ⟨p1, p2, p3, by rw [e2]; exact h3.2.2.2.1, by rw [e3]; exact h3.2.2.2.2⟩ h4 h5 h6)
theorem r_iload_n {k : Fin 4} {x : Int32} (hd : decode (mB m) pc = .ok (.iload_n k, 1)) (hv : Ls[(k : Nat)]? = some (.int x)) (K : Sem l L xs m (pc + 1) Ls (.int x :: st) h r) : Sem l L xs m pc Ls st h r :=
  Sem.pure (fun D ca b As p e R s mid args below meth c Q A H locs cells slots ls hC hl hS k9 => lv_iload_n hC.1 hC.2.1 hd rfl (lvO_at hl hv (by intro z; cases z)) k9) K
theorem r_iload {k : Nat} {x : Int32} (hd : decode (mB m) pc = .ok (.iload k, 2)) (hv : Ls[k]? = some (.int x)) (K : Sem l L xs m (pc + 2) Ls (.int x :: st) h r) : Sem l L xs m pc Ls st h r :=
  Sem.pure (fun D ca b As p e R s mid args below meth c Q A H locs cells slots ls hC hl hS k9 => lv_iload hC.1 hC.2.1 hd (lvO_at hl hv (by intro z; cases z)) k9) K
theorem r_lload_n {k : Fin 4} {x : Int64} (hd : decode (mB m) pc = .ok (.lload_n k, 1)) (hv : Ls[(k : Nat)]? = some (.long x)) (K : Sem l L xs m (pc + 1) Ls (.long x :: st) h r) : Sem l L xs m pc Ls st h r :=
  Sem.pure (fun D ca b As p e R s mid args below meth c Q A H locs cells slots ls hC hl hS k9 => lv_lload_n hC.1 hC.2.1 hd rfl (lvO_at hl hv (by intro z; cases z)) k9) K
theorem r_dload {k : Nat} {x : UInt64} (hd : decode (mB m) pc = .ok (.dload k, 2)) (hv : Ls[k]? = some (.double x)) (K : Sem l L xs m (pc + 2) Ls (.double x :: st) h r) : Sem l L xs m pc Ls st h r :=
  Sem.pure (fun D ca b As p e R s mid args below meth c Q A H locs cells slots ls hC hl hS k9 => lv_dload hC.1 hC.2.1 hd (lvO_at hl hv (by intro z; cases z)) k9) K
theorem r_aload_n {k : Fin 4} {x : Nat} (hd : decode (mB m) pc = .ok (.aload_n k, 1)) (hv : Ls[(k : Nat)]? = some (.ref x)) (K : Sem l L xs m (pc + 1) Ls (.ref x :: st) h r) : Sem l L xs m pc Ls st h r :=
  Sem.pure (fun D ca b As p e R s mid args below meth c Q A H locs cells slots ls hC hl hS k9 => lv_aload_n (x := A x) hC.1 hC.2.1 hd rfl (lvO_at hl hv (by intro z; cases z)) k9) K
theorem r_aload {k : Nat} {x : Nat} (hd : decode (mB m) pc = .ok (.aload k, 2)) (hv : Ls[k]? = some (.ref x)) (K : Sem l L xs m (pc + 2) Ls (.ref x :: st) h r) : Sem l L xs m pc Ls st h r :=
  Sem.pure (fun D ca b As p e R s mid args below meth c Q A H locs cells slots ls hC hl hS k9 => lv_aload (x := A x) hC.1 hC.2.1 hd (lvO_at hl hv (by intro z; cases z)) k9) K
theorem r_sload_n {k : Fin 4} {x : Nat} (hd : decode (mB m) pc = .ok (.aload_n k, 1)) (hv : Ls[(k : Nat)]? = some (.retAddr x)) (K : Sem l L xs m (pc + 1) Ls (.retAddr x :: st) h r) : Sem l L xs m pc Ls st h r :=
  Sem.pure (fun D ca b As p e R s mid args below meth c Q A H locs cells slots ls hC hl hS k9 => lv_aload_n (x := b) hC.1 hC.2.1 hd rfl (lvO_at hl hv (by intro z; cases z)) k9) K
theorem r_sload {k : Nat} {x : Nat} (hd : decode (mB m) pc = .ok (.aload k, 2)) (hv : Ls[k]? = some (.retAddr x)) (K : Sem l L xs m (pc + 2) Ls (.retAddr x :: st) h r) : Sem l L xs m pc Ls st h r :=
  Sem.pure (fun D ca b As p e R s mid args below meth c Q A H locs cells slots ls hC hl hS k9 => lv_aload (x := b) hC.1 hC.2.1 hd (lvO_at hl hv (by intro z; cases z)) k9) K
theorem r_istore_n {k : Fin 4} {x : Int32} (hd : decode (mB m) pc = .ok (.istore_n k, 1)) (hk : (k : Nat) < mM m) (hc : catOK Ls k = true) (K : Sem l L xs m (pc + 1) (Ls.set k (.int x)) st h r) : Sem l L xs m pc Ls (.int x :: st) h r :=
  Sem.loc (fun D ca b As p e R s mid args below meth c Q A H locs cells slots ls hC hl k9 => lv_istore_n hC.1 hC.2.1 hd rfl hl hk rfl (fun ls' hl' => k9 ls' (lv_mono hl' (lvO_set1 hc (Or.inr rfl))))) K
theorem r_istore {k : Nat} {x : Int32} (hd : decode (mB m) pc = .ok (.istore k, 2)) (hk : k < mM m) (hc : catOK Ls k = true) (K : Sem l L xs m (pc + 2) (Ls.set k (.int x)) st h r) : Sem l L xs m pc Ls (.int x :: st) h r :=
  Sem.loc (fun D ca b As p e R s mid args below meth c Q A H locs cells slots ls hC hl k9 => lv_istore hC.1 hC.2.1 hd hl hk rfl (fun ls' hl' => k9 ls' (lv_mono hl' (lvO_set1 hc (Or.inr rfl))))) K
theorem r_astore_n {k : Fin 4} {x : Nat} (hd : decode (mB m) pc = .ok (.astore_n k, 1)) (hk : (k : Nat) < mM m) (hc : catOK Ls k = true) (K : Sem l L xs m (pc + 1) (Ls.set k (.ref x)) st h r) : Sem l L xs m pc Ls (.ref x :: st) h r :=
  Sem.loc (fun D ca b As p e R s mid args below meth c Q A H locs cells slots ls hC hl k9 => lv_astore_n (x := A x) hC.1 hC.2.1 hd rfl hl hk rfl (fun ls' hl' => k9 ls' (lv_mono hl' (lvO_set1 hc (Or.inr rfl))))) K
theorem r_astore {k : Nat} {x : Nat} (hd : decode (mB m) pc = .ok (.astore k, 2)) (hk : k < mM m) (hc : catOK Ls k = true) (K : Sem l L xs m (pc + 2) (Ls.set k (.ref x)) st h r) : Sem l L xs m pc Ls (.ref x :: st) h r :=
  Sem.loc (fun D ca b As p e R s mid args below meth c Q A H locs cells slots ls hC hl k9 => lv_astore (x := A x) hC.1 hC.2.1 hd hl hk rfl (fun ls' hl' => k9 ls' (lv_mono hl' (lvO_set1 hc (Or.inr rfl))))) K
theorem r_lstore_n {k : Fin 4} {x : Int64} (hd : decode (mB m) pc = .ok (.lstore_n k, 1)) (hk : (k : Nat) + 1 < mM m) (hc : catOK Ls k = true) (K : Sem l L xs m (pc + 1) ((Ls.set k (.long x)).set (k + 1) .null) st h r) : Sem l L xs m pc Ls (.long x :: st) h r :=
  Sem.loc (fun D ca b As p e R s mid args below meth c Q A H locs cells slots ls hC hl k9 => lv_lstore_n hC.1 hC.2.1 hd rfl hl hk rfl (fun ls' hl' => k9 ls' (lv_mono hl' (lvO_set2 hc rfl)))) K
theorem r_dstore {k : Nat} {x : UInt64} (hd : decode (mB m) pc = .ok (.dstore k, 2)) (hk : k + 1 < mM m) (hc : catOK Ls k = true) (K : Sem l L xs m (pc + 2) ((Ls.set k (.double x)).set (k + 1) .null) st h r) : Sem l L xs m pc Ls (.double x :: st) h r :=
  Sem.loc (fun D ca b As p e R s mid args below meth c Q A H locs cells slots ls hC hl k9 => lv_dstore hC.1 hC.2.1 hd hl hk rfl (fun ls' hl' => k9 ls' (lv_mono hl' (lvO_set2 hc rfl)))) K
theorem r_iinc {k : Nat} {n : Int} {x : Int32} (hd : decode (mB m) pc = .ok (.iinc k n, 3)) (hv : Ls[k]? = some (.int x)) (hk : k < mM m) (hc : catOK Ls k = true) (K : Sem l L xs m (pc + 3) (Ls.set k (.int (x + Int32.ofInt n))) st h r) : Sem l L xs m pc Ls st h r :=
  Sem.loc (fun D ca b As p e R s mid args below meth c Q A H locs cells slots ls hC hl k9 => by
    obtain ⟨j, hj⟩ := List.getElem?_of_mem (mem_lvO (A := A) (b := b) (q := (k, .int x)).mpr ⟨_, hv, (by intro z; cases z), rfl⟩)
    exact lv_iinc hC.1 hC.2.1 hd hl hj rfl hk rfl (fun ls' hl' => k9 ls' (lv_mono hl' (lvO_set1 hc (Or.inr rfl))))) K
theorem r_iconst {n : Int} (hd : decode (mB m) pc = .ok (.iconst n, 1)) (K : Sem l L xs m (pc + 1) Ls (.int (Int32.ofInt n) :: st) h r) : Sem l L xs m pc Ls st h r :=
  Sem.pure (fun D ca b As p e R s mid args below meth c Q A H locs cells slots ls hC hl hS k9 => lv_iconst hC.1 hC.2.1 hd rfl k9) K
theorem r_bipush {n : Int} (hd : decode (mB m) pc = .ok (.bipush n, 2)) (K : Sem l L xs m (pc + 2) Ls (.int (Int8.ofInt n).toInt32 :: st) h r) : Sem l L xs m pc Ls st h r :=
  Sem.pure (fun D ca b As p e R s mid args below meth c Q A H locs cells slots ls hC hl hS k9 => lv_bipush hC.1 hC.2.1 hd rfl k9) K
theorem r_sipush {n : Int} (hd : decode (mB m) pc = .ok (.sipush n, 3)) (K : Sem l L xs m (pc + 3) Ls (.int (Int16.ofInt n).toInt32 :: st) h r) : Sem l L xs m pc Ls st h r :=
  Sem.pure (fun D ca b As p e R s mid args below meth c Q A H locs cells slots ls hC hl hS k9 => lv_sipush hC.1 hC.2.1 hd rfl k9) K
theorem r_lload {k : Nat} {x : Int64} (hd : decode (mB m) pc = .ok (.lload k, 2)) (hv : Ls[k]? = some (.long x)) (K : Sem l L xs m (pc + 2) Ls (.long x :: st) h r) : Sem l L xs m pc Ls st h r :=
  Sem.pure (fun D ca b As p e R s mid args below meth c Q A H locs cells slots ls hC hl hS k9 => lv_lload hC.1 hC.2.1 hd (lvO_at hl hv (by intro z; cases z)) k9) K
theorem r_lstore {k : Nat} {x : Int64} (hd : decode (mB m) pc = .ok (.lstore k, 2)) (hk : k + 1 < mM m) (hc : catOK Ls k = true) (K : Sem l L xs m (pc + 2) ((Ls.set k (.long x)).set (k + 1) .null) st h r) : Sem l L xs m pc Ls (.long x :: st) h r :=
  Sem.loc (fun D ca b As p e R s mid args below meth c Q A H locs cells slots ls hC hl k9 => lv_lstore hC.1 hC.2.1 hd hl hk rfl (fun ls' hl' => k9 ls' (lv_mono hl' (lvO_set2 hc rfl)))) K
theorem r_dconst0 (hd : decode (mB m) pc = .ok (.dconst 0, 1)) (K : Sem l L xs m (pc + 1) Ls (.double FP.dconst0 :: st) h r) : Sem l L xs m pc Ls st h r :=
  Sem.pure (fun D ca b As p e R s mid args below meth c Q A H locs cells slots ls hC hl hS k9 => lv_dconst0 hC.1 hC.2.1 hd k9) K
theorem r_dconst1 (hd : decode (mB m) pc = .ok (.dconst 1, 1)) (K : Sem l L xs m (pc + 1) Ls (.double FP.dconst1 :: st) h r) : Sem l L xs m pc Ls st h r :=
  Sem.pure (fun D ca b As p e R s mid args below meth c Q A H locs cells slots ls hC hl hS k9 => lv_dconst1 hC.1 hC.2.1 hd k9) K
def okI (q : Nat × Nat × Int32 × Nat) : Bool := atW q.2.2.2 (.constant (ow q.1) q.2.1 q.2.2.1)
set_option maxRecDepth 100000 in
theorem iRT_ok : iRT.all okI = true := by decide +kernel
theorem iRes_ok {c i : Nat} {v : Int32} (h : iRes c i = some v) : Cond.constant (ow c) i v ∈ GW := by
  unfold iRes at h
  obtain ⟨q, hq, he⟩ := Option.map_eq_some_iff.mp h
  have hp := List.find?_some hq
  rw [Bool.and_eq_true, beq_iff_eq, beq_iff_eq] at hp
  have ho := List.all_eq_true.mp iRT_ok q (List.mem_of_find?_eq_some hq)
  cases he
  rw [← hp.1, ← hp.2]
  exact atW_mem ho
def okL (q : Nat × Nat × Int64 × Nat) : Bool := atW q.2.2.2 (.constantLong (ow q.1) q.2.1 q.2.2.1)
set_option maxRecDepth 100000 in
theorem lRT_ok : lRT.all okL = true := by decide +kernel
theorem lRes_ok {c i : Nat} {v : Int64} (h : lRes c i = some v) : Cond.constantLong (ow c) i v ∈ GW := by
  unfold lRes at h
  obtain ⟨q, hq, he⟩ := Option.map_eq_some_iff.mp h
  have hp := List.find?_some hq
  rw [Bool.and_eq_true, beq_iff_eq, beq_iff_eq] at hp
  have ho := List.all_eq_true.mp lRT_ok q (List.mem_of_find?_eq_some hq)
  cases he
  rw [← hp.1, ← hp.2]
  exact atW_mem ho
theorem Cx.own {D : va_G} {ca : Nat → ClassId} {b : Nat} {As : Nat → Prop} {p : Program} {R : Room} {s : State} {mid : MethodId} {args : Array Value} {meth : Method} {c : Code} (hC : Cx l L xs m D ca b As p R s mid args meth c) : s.vm.findClass (ow (mC m)) = some mid.cls := by
  obtain ⟨hx, hb, hr, hml, hown, hts, hlk, hnm, htab, hRf, hRl, hK, hG, hZ, hA, hlaw, hcl, hst⟩ := hC
  rw [← hcl]; exact hown
theorem Cx.wd {D : va_G} {ca : Nat → ClassId} {b : Nat} {As : Nat → Prop} {p : Program} {R : Room} {s : State} {mid : MethodId} {args : Array Value} {meth : Method} {c : Code} (hC : Cx l L xs m D ca b As p R s mid args meth c) : ∀ w ∈ GW, w.before args s = true := hC.2.2.2.2.2.1
theorem Cx.K {D : va_G} {ca : Nat → ClassId} {b : Nat} {As : Nat → Prop} {p : Program} {R : Room} {s : State} {mid : MethodId} {args : Array Value} {meth : Method} {c : Code} (hC : Cx l L xs m D ca b As p R s mid args meth c) : va_K D vwCl (tysOf ca) s := hC.2.2.2.2.2.2.2.2.2.2.2.1
theorem r_ldc {j : Nat} {v : Int32} (hd : decode (mB m) pc = .ok (.ldc j, 2)) (hi : iRes (mC m) j = some v) (K : Sem l L xs m (pc + 2) Ls (.int v :: st) h r) : Sem l L xs m pc Ls st h r :=
  Sem.pure (fun D ca b As p e R s mid args below meth c Q A H locs cells slots ls hC hl hS k9 => lv_ldc hC.1 hC.2.1 hC.own (hC.wd _ (iRes_ok hi)) hd k9) K
theorem r_ldcw {j : Nat} {v : Int32} (hd : decode (mB m) pc = .ok (.ldc_w j, 3)) (hi : iRes (mC m) j = some v) (K : Sem l L xs m (pc + 3) Ls (.int v :: st) h r) : Sem l L xs m pc Ls st h r :=
  Sem.pure (fun D ca b As p e R s mid args below meth c Q A H locs cells slots ls hC hl hS k9 => lv_ldcw hC.1 hC.2.1 hC.own (hC.wd _ (iRes_ok hi)) hd k9) K
theorem r_ldc2 {j : Nat} {v : Int64} (hd : decode (mB m) pc = .ok (.ldc2_w j, 3)) (hi : lRes (mC m) j = some v) (K : Sem l L xs m (pc + 3) Ls (.long v :: st) h r) : Sem l L xs m pc Ls st h r :=
  Sem.pure (fun D ca b As p e R s mid args below meth c Q A H locs cells slots ls hC hl hS k9 => lv_ldc2 hC.1 hC.2.1 hC.own (hC.wd _ (lRes_ok hi)) hd k9) K
theorem r_iadd {x y : Int32} (hd : decode (mB m) pc = .ok (.iadd, 1)) (K : Sem l L xs m (pc + 1) Ls (.int (x + y) :: st) h r) : Sem l L xs m pc Ls (.int y :: .int x :: st) h r :=
  Sem.pure (fun D ca b As p e R s mid args below meth c Q A H locs cells slots ls hC hl hS k9 => lv_iadd hC.1 hC.2.1 hd k9) K
theorem r_isub {x y : Int32} (hd : decode (mB m) pc = .ok (.isub, 1)) (K : Sem l L xs m (pc + 1) Ls (.int (x - y) :: st) h r) : Sem l L xs m pc Ls (.int y :: .int x :: st) h r :=
  Sem.pure (fun D ca b As p e R s mid args below meth c Q A H locs cells slots ls hC hl hS k9 => lv_isub hC.1 hC.2.1 hd k9) K
theorem r_imul {x y : Int32} (hd : decode (mB m) pc = .ok (.imul, 1)) (K : Sem l L xs m (pc + 1) Ls (.int (x * y) :: st) h r) : Sem l L xs m pc Ls (.int y :: .int x :: st) h r :=
  Sem.pure (fun D ca b As p e R s mid args below meth c Q A H locs cells slots ls hC hl hS k9 => lv_imul hC.1 hC.2.1 hd k9) K
theorem r_iand {x y : Int32} (hd : decode (mB m) pc = .ok (.iand, 1)) (K : Sem l L xs m (pc + 1) Ls (.int (x &&& y) :: st) h r) : Sem l L xs m pc Ls (.int y :: .int x :: st) h r :=
  Sem.pure (fun D ca b As p e R s mid args below meth c Q A H locs cells slots ls hC hl hS k9 => lv_iand hC.1 hC.2.1 hd k9) K
theorem r_ior {x y : Int32} (hd : decode (mB m) pc = .ok (.ior, 1)) (K : Sem l L xs m (pc + 1) Ls (.int (x ||| y) :: st) h r) : Sem l L xs m pc Ls (.int y :: .int x :: st) h r :=
  Sem.pure (fun D ca b As p e R s mid args below meth c Q A H locs cells slots ls hC hl hS k9 => lv_ior hC.1 hC.2.1 hd k9) K
theorem r_ixor {x y : Int32} (hd : decode (mB m) pc = .ok (.ixor, 1)) (K : Sem l L xs m (pc + 1) Ls (.int (x ^^^ y) :: st) h r) : Sem l L xs m pc Ls (.int y :: .int x :: st) h r :=
  Sem.pure (fun D ca b As p e R s mid args below meth c Q A H locs cells slots ls hC hl hS k9 => lv_ixor hC.1 hC.2.1 hd k9) K
theorem r_ishl {x y : Int32} (hd : decode (mB m) pc = .ok (.ishl, 1)) (K : Sem l L xs m (pc + 1) Ls (.int (x <<< (y &&& 31)) :: st) h r) : Sem l L xs m pc Ls (.int y :: .int x :: st) h r :=
  Sem.pure (fun D ca b As p e R s mid args below meth c Q A H locs cells slots ls hC hl hS k9 => lv_ishl hC.1 hC.2.1 hd k9) K
theorem r_ishr {x y : Int32} (hd : decode (mB m) pc = .ok (.ishr, 1)) (K : Sem l L xs m (pc + 1) Ls (.int (x >>> (y &&& 31)) :: st) h r) : Sem l L xs m pc Ls (.int y :: .int x :: st) h r :=
  Sem.pure (fun D ca b As p e R s mid args below meth c Q A H locs cells slots ls hC hl hS k9 => lv_ishr hC.1 hC.2.1 hd k9) K
theorem r_iushr {x y : Int32} (hd : decode (mB m) pc = .ok (.iushr, 1)) (K : Sem l L xs m (pc + 1) Ls (.int (x.toUInt32 >>> (y.toUInt32 &&& Int32.toUInt32 31)).toInt32 :: st) h r) : Sem l L xs m pc Ls (.int y :: .int x :: st) h r :=
  Sem.pure (fun D ca b As p e R s mid args below meth c Q A H locs cells slots ls hC hl hS k9 => lv_iushr hC.1 hC.2.1 hd rfl k9) K
theorem r_idiv {x y : Int32} (hd : decode (mB m) pc = .ok (.idiv, 1)) (hy : ¬ y = 0) (K : Sem l L xs m (pc + 1) Ls (.int (x / y) :: st) h r) : Sem l L xs m pc Ls (.int y :: .int x :: st) h r :=
  Sem.pure (fun D ca b As p e R s mid args below meth c Q A H locs cells slots ls hC hl hS k9 => lv_idiv hC.1 hC.2.1 hd hy k9) K
theorem r_irem {x y : Int32} (hd : decode (mB m) pc = .ok (.irem, 1)) (hy : ¬ y = 0) (K : Sem l L xs m (pc + 1) Ls (.int (x - x / y * y) :: st) h r) : Sem l L xs m pc Ls (.int y :: .int x :: st) h r :=
  Sem.pure (fun D ca b As p e R s mid args below meth c Q A H locs cells slots ls hC hl hS k9 => lv_irem hC.1 hC.2.1 hd hy k9) K
theorem r_ineg {x : Int32} (hd : decode (mB m) pc = .ok (.ineg, 1)) (K : Sem l L xs m (pc + 1) Ls (.int (-x) :: st) h r) : Sem l L xs m pc Ls (.int x :: st) h r :=
  Sem.pure (fun D ca b As p e R s mid args below meth c Q A H locs cells slots ls hC hl hS k9 => lv_ineg hC.1 hC.2.1 hd k9) K
theorem r_ladd {x y : Int64} (hd : decode (mB m) pc = .ok (.ladd, 1)) (K : Sem l L xs m (pc + 1) Ls (.long (x + y) :: st) h r) : Sem l L xs m pc Ls (.long y :: .long x :: st) h r :=
  Sem.pure (fun D ca b As p e R s mid args below meth c Q A H locs cells slots ls hC hl hS k9 => lv_ladd hC.1 hC.2.1 hd k9) K
theorem r_lmul {x y : Int64} (hd : decode (mB m) pc = .ok (.lmul, 1)) (K : Sem l L xs m (pc + 1) Ls (.long (x * y) :: st) h r) : Sem l L xs m pc Ls (.long y :: .long x :: st) h r :=
  Sem.pure (fun D ca b As p e R s mid args below meth c Q A H locs cells slots ls hC hl hS k9 => lv_lmul hC.1 hC.2.1 hd k9) K
theorem r_i2l {x : Int32} (hd : decode (mB m) pc = .ok (.i2l, 1)) (K : Sem l L xs m (pc + 1) Ls (.long x.toInt64 :: st) h r) : Sem l L xs m pc Ls (.int x :: st) h r :=
  Sem.pure (fun D ca b As p e R s mid args below meth c Q A H locs cells slots ls hC hl hS k9 => lv_i2l hC.1 hC.2.1 hd rfl k9) K
theorem r_i2d {x : Int32} (hd : decode (mB m) pc = .ok (.i2d, 1)) (K : Sem l L xs m (pc + 1) Ls (.double (FP.i2d x) :: st) h r) : Sem l L xs m pc Ls (.int x :: st) h r :=
  Sem.pure (fun D ca b As p e R s mid args below meth c Q A H locs cells slots ls hC hl hS k9 => lv_i2d hC.1 hC.2.1 hd k9) K
theorem r_lcmp {x y : Int64} (hd : decode (mB m) pc = .ok (.lcmp, 1)) (K : Sem l L xs m (pc + 1) Ls (.int (lg_cmp x y) :: st) h r) : Sem l L xs m pc Ls (.long y :: .long x :: st) h r :=
  Sem.pure (fun D ca b As p e R s mid args below meth c Q A H locs cells slots ls hC hl hS k9 => W.lcmp hC.1 hC.2.1 hd k9) K
theorem r_dcmp {x y : UInt64} {o : CmpOp} (hd : decode (mB m) pc = .ok (.dcmp o, 1)) (K : Sem l L xs m (pc + 1) Ls (.int (Op.cmpValue (FP.dcmp x y) o) :: st) h r) : Sem l L xs m pc Ls (.double y :: .double x :: st) h r :=
  Sem.pure (fun D ca b As p e R s mid args below meth c Q A H locs cells slots ls hC hl hS k9 => lv_dcmp hC.1 hC.2.1 hd k9) K
theorem r_ddiv {x y : UInt64} (hd : decode (mB m) pc = .ok (.ddiv, 1)) (hv : FP.ddiv x y &&& 0x7fffffffffffffff ≤ 0x7ff0000000000000) (K : Sem l L xs m (pc + 1) Ls (.double (FP.ddiv x y) :: st) h r) : Sem l L xs m pc Ls (.double y :: .double x :: st) h r :=
  Sem.pure (fun D ca b As p e R s mid args below meth c Q A H locs cells slots ls hC hl hS k9 => lv_ddiv hC.1 hC.2.1 hd hv k9) K
theorem r_dup {v : Value} (hd : decode (mB m) pc = .ok (.dup, 1)) (hv : v.category = 1) (K : Sem l L xs m (pc + 1) Ls (v :: v :: st) h r) : Sem l L xs m pc Ls (v :: st) h r :=
  Sem.pure (fun D ca b As p e R s mid args below meth c Q A H locs cells slots ls hC hl hS k9 => lv_dup hC.1 hC.2.1 hd (by rw [tv_cat]; exact hv) k9) K
theorem r_dup2 {v w : Value} (hd : decode (mB m) pc = .ok (.dup2, 1)) (hv : v.category = 1) (hw : w.category = 1) (K : Sem l L xs m (pc + 1) Ls (v :: w :: v :: w :: st) h r) : Sem l L xs m pc Ls (v :: w :: st) h r :=
  Sem.pure (fun D ca b As p e R s mid args below meth c Q A H locs cells slots ls hC hl hS k9 => lv_dup2_11 hC.1 hC.2.1 hd (by rw [tv_cat]; exact hv) (by rw [tv_cat]; exact hw) k9) K
theorem r_pop {v : Value} (hd : decode (mB m) pc = .ok (.pop, 1)) (hv : v.category = 1) (K : Sem l L xs m (pc + 1) Ls st h r) : Sem l L xs m pc Ls (v :: st) h r :=
  Sem.pure (fun D ca b As p e R s mid args below meth c Q A H locs cells slots ls hC hl hS k9 => lv_pop hC.1 hC.2.1 hd (by rw [tv_cat]; exact hv) k9) K
theorem jok_eq {pc : Nat} {o : Int} (h : jok pc o = true) : (pc : Int) + o = (jmp pc o : Int) := by
  unfold jok at h
  rw [decide_eq_true_eq] at h
  unfold jmp
  omega
theorem r_goto {o : Int} (hd : decode (mB m) pc = .ok (.goto o, 3)) (hj : jok pc o = true) (K : Sem l L xs m (jmp pc o) Ls st h r) : Sem l L xs m pc Ls st h r :=
  Sem.pure (fun D ca b As p e R s mid args below meth c Q A H locs cells slots ls hC hl hS k9 => lv_goto hC.1 hC.2.1 hd (jok_eq hj) k9) K
theorem r_icmp {cd : ClassFile.Cond} {o : Int} {x y : Int32} (hd : decode (mB m) pc = .ok (.if_icmp cd o, 3)) (hj : jok pc o = true) (K : Sem l L xs m (if cmpI cd x y = true then jmp pc o else pc + 3) Ls st h r) : Sem l L xs m pc Ls (.int y :: .int x :: st) h r := by
  refine Sem.pure (fun D ca b As p e R s mid args below meth c Q A H locs cells slots ls hC hl hS k9 => ?_) K
  cases cd <;> simp only [cmpI, decide_eq_true_eq] at k9
  · exact lv_icmp_eq hC.1 hC.2.1 hd (jok_eq hj) (fun hc => by rw [if_pos hc] at k9; exact k9) (fun hc => by rw [if_neg hc] at k9; exact k9)
  · exact lv_icmp_ne hC.1 hC.2.1 hd (jok_eq hj) (fun hc => by rw [if_pos hc] at k9; exact k9) (fun hc => by rw [if_neg (by exact fun z => z hc)] at k9; exact k9)
  · exact lv_icmp_lt hC.1 hC.2.1 hd (jok_eq hj) (fun hc => by rw [if_pos hc] at k9; exact k9) (fun hc => by rw [if_neg hc] at k9; exact k9)
  · exact lv_icmp_ge hC.1 hC.2.1 hd (jok_eq hj) (fun hc => by rw [if_pos hc] at k9; exact k9) (fun hc => by rw [if_neg hc] at k9; exact k9)
  · exact lv_icmp_gt hC.1 hC.2.1 hd (jok_eq hj) (fun hc => by rw [if_pos hc] at k9; exact k9) (fun hc => by rw [if_neg hc] at k9; exact k9)
  · exact lv_icmp_le hC.1 hC.2.1 hd (jok_eq hj) (fun hc => by rw [if_pos hc] at k9; exact k9) (fun hc => by rw [if_neg hc] at k9; exact k9)
theorem r_if {cd : ClassFile.Cond} {o : Int} {x : Int32} (hd : decode (mB m) pc = .ok (.ifCond cd o, 3)) (hj : jok pc o = true) (K : Sem l L xs m (if cmpI cd x 0 = true then jmp pc o else pc + 3) Ls st h r) : Sem l L xs m pc Ls (.int x :: st) h r := by
  refine Sem.pure (fun D ca b As p e R s mid args below meth c Q A H locs cells slots ls hC hl hS k9 => ?_) K
  cases cd <;> simp only [cmpI, decide_eq_true_eq] at k9
  · exact lv_if_eq hC.1 hC.2.1 hd (jok_eq hj) (fun hc => by rw [if_pos hc] at k9; exact k9) (fun hc => by rw [if_neg hc] at k9; exact k9)
  · exact lv_if_ne hC.1 hC.2.1 hd (jok_eq hj) (fun hc => by rw [if_pos hc] at k9; exact k9) (fun hc => by rw [if_neg (by exact fun z => z hc)] at k9; exact k9)
  · exact lv_if_lt hC.1 hC.2.1 hd (jok_eq hj) (fun hc => by rw [if_pos hc] at k9; exact k9) (fun hc => by rw [if_neg hc] at k9; exact k9)
  · exact lv_if_ge hC.1 hC.2.1 hd (jok_eq hj) (fun hc => by rw [if_pos hc] at k9; exact k9) (fun hc => by rw [if_neg hc] at k9; exact k9)
  · exact lv_if_gt hC.1 hC.2.1 hd (jok_eq hj) (fun hc => by rw [if_pos hc] at k9; exact k9) (fun hc => by rw [if_neg hc] at k9; exact k9)
  · exact lv_if_le hC.1 hC.2.1 hd (jok_eq hj) (fun hc => by rw [if_pos hc] at k9; exact k9) (fun hc => by rw [if_neg hc] at k9; exact k9)
theorem r_tsw {d lo hi : Int} {offs : Array Int} {len : Nat} {x : Int32} {o : Int} (hd : decode (mB m) pc = .ok (.tableswitch d lo hi offs, len)) (ho : tswT pc d lo hi offs x = some o) (hj : jok pc o = true) (K : Sem l L xs m (jmp pc o) Ls st h r) : Sem l L xs m pc Ls (.int x :: st) h r := by
  refine Sem.pure (fun D ca b As p e R s mid args below meth c Q A H locs cells slots ls hC hl hS k9 => ?_) K
  unfold tswT at ho
  split at ho
  · rename_i hc
    cases ho
    exact lv_tableOut hC.1 hC.2.1 hd hc (jok_eq hj) k9
  · rename_i hc
    exact lv_tableIn hC.1 hC.2.1 hd (fun z => hc (Or.inl z)) (fun z => hc (Or.inr z)) ho (jok_eq hj) k9
theorem r_lsw {d : Int} {ps : Array (Int × Int)} {len : Nat} {x : Int32} (hd : decode (mB m) pc = .ok (.lookupswitch d ps, len)) (hp : (ps.toList.zip (ps.toList.drop 1)).all (fun q => decide (q.1.1 < q.2.1)) = true) (hj : jok pc (Op.lookupswitch.offset ps.toList d x.toInt) = true) (K : Sem l L xs m (jmp pc (Op.lookupswitch.offset ps.toList d x.toInt)) Ls st h r) : Sem l L xs m pc Ls (.int x :: st) h r :=
  Sem.pure (fun D ca b As p e R s mid args below meth c Q A H locs cells slots ls hC hl hS k9 => lv_lookup hC.1 hC.2.1 hd hp rfl (jok_eq hj) k9) K
end
end
section
/-! THE ROWS OF THE HEAP -/
section
variable {l : Launch} {L : Nat} {xs : Nat → Int32} {m : MD} {pc : Nat} {Ls st : List Value} {h : AH} {r : Res}
theorem cont_obj {ca : Nat → ClassId} {A : Nat → Nat} {h : AH} {i k : Nat} (hk : hK h i = k) (h8 : k < 8) : cont ca A h i = .inr (k, (List.range (cN k)).map (fvl A h k i)) := by
  subst hk
  unfold cont
  rw [if_pos h8]
theorem cont_int {ca : Nat → ClassId} {A : Nat → Nat} {h : AH} {i : Nat} (hk : hK h i = 8) : cont ca A h i = .inl (ca 0, hN h i, .inl (hA h i)) := by
  unfold cont
  rw [hk]; rfl
theorem cont_long {ca : Nat → ClassId} {A : Nat → Nat} {h : AH} {i : Nat} (hk : hK h i = 12) : cont ca A h i = .inl (ca 4, hN h i, .inr (.inl (hL h i))) := by
  unfold cont
  rw [hk]; rfl
theorem cont_row {ca : Nat → ClassId} {A : Nat → Nat} {h : AH} {i : Nat} (hk : hK h i = 9 ∨ hK h i = 10 ∨ hK h i = 11) : cont ca A h i = .inl (ca (hK h i - 8), hN h i, .inr (.inr (.inr (.inr (fun j => (hQ h i j).map A))))) := by
  unfold cont
  rw [if_neg (by omega), if_neg (by omega), if_neg (by omega)]
theorem tys_row {ca : Nat → ClassId} {k : Nat} (hk : k = 9 ∨ k = 10 ∨ k = 11) : (tysOf ca)[k - 8]? = some (ca (k - 8), .object (cR (rowK k))) := by
  rcases hk with rfl | rfl | rfl <;> rfl
theorem fields_at {A : Nat → Nat} {h : AH} {k i f : Nat} (hf : f < cN k) : ((List.range (cN k)).map (fvl A h k i))[f]? = some (fvl A h k i f) := by
  rw [List.getElem?_map, List.getElem?_range hf]
  rfl
theorem fvl_int {A : Nat → Nat} {h : AH} {k i f : Nat} (hr : isRf k f = false) : fvl A h k i f = .int (hI h (16 * k + f) i) := by
  unfold fvl; rw [hr]; rfl
theorem fvl_ref {A : Nat → Nat} {h : AH} {k i f j : Nat} (hr : isRf k f = true) (hj : hR h (16 * k + f) i = some j) : fvl A h k i f = .ref (A j) := by
  unfold fvl; rw [hr, hj]; rfl
theorem r_getI {a i k f : Nat} (hd : decode (mB m) pc = .ok (.getfield i, 3)) (hf : fRes (mC m) i = some (k, f)) (ha : a < hn h) (hk : hK h a = k) (hr : isRf k f = false) (K : Sem l L xs m (pc + 3) Ls (.int (hI h (16 * k + f) a) :: st) h r) : Sem l L xs m pc Ls (.ref a :: st) h r := by
  obtain ⟨h8, hfN, hw⟩ := fRes_ok hf
  refine Sem.read (fun D ca b As p e R s mid args below meth c Q A H locs cells slots ls hC hz hP hS k9 => ?_) K
  exact va_get hC.1 hC.2.1 hC.wd (cls_in k h8) hC.own hC.K hP a (by rw [wld_at ha, cont_obj hk h8]) (cls_ok k h8) f hfN (hC.wd _ hw) (fun _ z => z) (by rw [fields_at hfN, fvl_int hr]; rfl) hd k9
theorem r_getR {a i k f j : Nat} (hd : decode (mB m) pc = .ok (.getfield i, 3)) (hf : fRes (mC m) i = some (k, f)) (ha : a < hn h) (hk : hK h a = k) (hr : isRf k f = true) (hj : hR h (16 * k + f) a = some j) (K : Sem l L xs m (pc + 3) Ls (.ref j :: st) h r) : Sem l L xs m pc Ls (.ref a :: st) h r := by
  obtain ⟨h8, hfN, hw⟩ := fRes_ok hf
  refine Sem.read (fun D ca b As p e R s mid args below meth c Q A H locs cells slots ls hC hz hP hS k9 => ?_) K
  exact va_get hC.1 hC.2.1 hC.wd (cls_in k h8) hC.own hC.K hP a (by rw [wld_at ha, cont_obj hk h8]) (cls_ok k h8) f hfN (hC.wd _ hw) (fun _ z => z) (by rw [fields_at hfN, fvl_ref hr hj]; rfl) hd k9
theorem cTy_ref {k f : Nat} (h8 : k < 8) (hf : f < cN k) (hr : isRf k f = true) (a : Nat) : narrow (cTy k f) (.ref a) = .ref a ∧ fits (cTy k f) (.ref a) = true := by
  have h : ∀ k, k < 8 → ∀ f, f < cN k → isRf k f = true → (∃ n, cTy k f = .object n) ∨ ∃ t, cTy k f = .array t := by
    intro k hk f hf hr
    unfold isRf at hr
    cases ht : cTy k f with
    | object n => exact Or.inl ⟨n, rfl⟩
    | array t => exact Or.inr ⟨t, rfl⟩
    | int => rw [ht] at hr; cases hr
    | _ =>
      exfalso
      have z : ∀ k, k < 8 → ∀ f, f < cN k → (cTy k f = .int ∨ (match cTy k f with | .object _ => true | .array _ => true | _ => false) = true) := by decide +kernel
      rcases z k hk f hf with q | q
      · rw [ht] at q; cases q
      · rw [ht] at q; cases q
  rcases h k h8 f hf hr with ⟨n, e⟩ | ⟨t, e⟩ <;> rw [e] <;> exact ⟨rfl, rfl⟩
theorem cTy_int {k f : Nat} (hr : isRf k f = false) : cTy k f = .int := by
  unfold isRf at hr
  split at hr
  · assumption
  · cases hr
theorem set_fld {g g' : Nat → Value} {N f : Nat} {v : Value} (hv : g' f = v) (hne : ∀ j, j ≠ f → g' j = g j) : ((List.range N).map g).set f v = (List.range N).map g' := by
  apply List.ext_getElem?
  intro j
  rw [List.getElem?_set, List.length_map, List.length_range, List.getElem?_map, List.getElem?_map]
  by_cases hj : f = j
  · subst hj
    rw [if_pos rfl]
    split
    · rename_i hl
      rw [List.getElem?_range hl, ← hv]; rfl
    · rename_i hl
      rw [List.getElem?_eq_none (by rw [List.length_range]; omega)]; rfl
  · rw [if_neg hj]
    by_cases hl : j < N
    · rw [List.getElem?_range hl]
      show some (g j) = some (g' j)
      rw [hne j (fun z => hj z.symm)]
    · rw [List.getElem?_eq_none (by rw [List.length_range]; omega)]; rfl
theorem cont_other {ca : Nat → ClassId} {A : Nat → Nat} {h h' : AH} {j : Nat} (e1 : hK h' j = hK h j) (e2 : ∀ F, hI h' F j = hI h F j) (e3 : ∀ F, hR h' F j = hR h F j) (e4 : hN h' j = hN h j) (e5 : hA h' j = hA h j) (e6 : hQ h' j = hQ h j) (e7 : hL h' j = hL h j) : cont ca A h' j = cont ca A h j := by
  have : ∀ k s, fvl A h' k j s = fvl A h k j s := fun k s => by unfold fvl; rw [e2, e3]
  unfold cont
  rw [e1, e4, e5, e6, e7]
  rw [show fvl A h' (hK h j) j = fvl A h (hK h j) j from funext fun s => this _ s]
theorem putOK_spec {k f : Nat} (hp : putOK m k f = true) : (cT k f).2.2.2 = false ∨ ((cT k f).2.2.2 = true ∧ (mN m).name = "<init>" ∧ (mN m).cls = cR k) := by
  unfold putOK at hp
  cases hc : (cT k f).2.2.2 with
  | false => exact Or.inl rfl
  | true =>
    rw [hc] at hp
    simp only [Bool.not_true, Bool.false_or, Bool.and_eq_true, beq_iff_eq] at hp
    exact Or.inr ⟨rfl, hp.1, hp.2⟩
theorem cT_decl : ∀ k, k < 8 → ∀ f, f < cN k → (cT k f).1 = cR k := by decide +kernel
theorem r_put {a i k f : Nat} {v : Value} {h' : AH} (hd : decode (mB m) pc = .ok (.putfield i, 3)) (hf : fRes (mC m) i = some (k, f)) (ha : a < hn h) (hk : hK h a = k) (hp : putOK m k f = true)
    (hv : ∀ (A : Nat → Nat) (b : Nat), narrow (cTy k f) (tv A b v) = tv A b v ∧ fits (cTy k f) (tv A b v) = true ∧ fvl A h' k a f = tv A b v) (e1 : hn h' = hn h) (e2 : hc h' = hc h) (e3 : hs h' = hs h)
    (ek : ∀ j, hK h' j = hK h j) (eN : hN h' = hN h) (eA : hA h' = hA h) (eQ : hQ h' = hQ h) (eL : hL h' = hL h) (eo : ∀ F j, (j ≠ a ∨ F ≠ 16 * k + f) → hI h' F j = hI h F j ∧ hR h' F j = hR h F j)
    (K : Sem l L xs m (pc + 3) Ls st h' r) : Sem l L xs m pc Ls (v :: .ref a :: st) h r := by
  obtain ⟨h8, hfN, hw⟩ := fRes_ok hf
  refine Sem.heap e1 e2 e3 (fun D ca b As p e R s mid args below meth c Q A H locs cells slots ls hC hz hP hD hS k9 => ?_) K
  have hfl : ((List.range (cN k)).map (fvl A h k a)).set f (tv A b v) = (List.range (cN k)).map (fvl A h' k a) :=
    set_fld (hv A b).2.2 (fun j hj => by unfold fvl; rw [(eo (16 * k + j) a (Or.inr (by omega))).1, (eo (16 * k + j) a (Or.inr (by omega))).2])
  have hset : (wld ca A h).set a (A a, .inr (k, ((List.range (cN k)).map (fvl A h k a)).set f (tv A b v))) = wld ca A h' :=
    wld_set e1 (by rw [cont_obj (by rw [ek]; exact hk) h8, hfl]) (fun j hj => cont_other (ek j) (fun F => (eo F j (Or.inl hj)).1) (fun F => (eo F j (Or.inl hj)).2) (by rw [eN]) (by rw [eA]) (by rw [eQ]) (by rw [eL]))
  have kk : ∀ (H1 : Heap) (locs1 : List Loc), va_P D vwCl ((wld ca A h).set a (A a, .inr (k, ((List.range (cN k)).map (fvl A h k a)).set f (tv A b v)))) H1 → va_D As ((wld ca A h).set a (A a, .inr (k, ((List.range (cN k)).map (fvl A h k a)).set f (tv A b v)))) → va_S As s.heap H1 locs1 → W p l e R s mid args below meth c H1 locs1 cells slots Q (F0 mid (pc + 3) ls (st.map (tv A b))) := by
    intro H1 locs1 q1 q2 q3
    rw [hset] at q1 q2
    exact k9 H1 locs1 q1 q2 q3
  have hat : (wld ca A h)[a]? = some (A a, .inr (k, (List.range (cN k)).map (fvl A h k a))) := by rw [wld_at ha, cont_obj hk h8]
  have hlen : f < ((List.range (cN k)).map (fvl A h k a)).length := by simpa using hfN
  rcases putOK_spec hp with hfin | ⟨hfin, hnm, hcl⟩
  · exact va_put hC.1 hC.2.1 hC.wd (cls_in k h8) (cTy k) (cls_ty k h8) (cls_nm k h8) hC.own hC.K hP hD hS a hat (cls_ok k h8) f hfN (hC.wd _ hw) (fun _ z => z) hfin (cls_ty k h8 f hfN) (hv A b).1 (hv A b).2.1 hlen hd kk
  · obtain ⟨hx, hb, hr, hml, hown, hts, hlk, hnm9, htab, hRf, hRl, hK, hG, hZ, hA, hlaw, hcl9, hst⟩ := id hC
    exact va_putF hC.1 hC.2.1 hC.wd (cls_in k h8) (cTy k) (cls_ty k h8) (cls_nm k h8) hC.own hC.K hP hD hS a hat (cls_ok k h8) f hfN (hC.wd _ hw) (fun _ z => z) hfin (hnm9.trans hnm) (by rw [cT_decl k h8 f hfN, ← hcl9, hcl]) (cls_ty k h8 f hfN) (hv A b).1 (hv A b).2.1 hlen hd kk
theorem r_putI {a i k f : Nat} {v : Int32} (hd : decode (mB m) pc = .ok (.putfield i, 3)) (hf : fRes (mC m) i = some (k, f)) (ha : a < hn h) (hk : hK h a = k) (hp : putOK m k f = true) (hr : isRf k f = false) (K : Sem l L xs m (pc + 3) Ls st (sI h (16 * k + f) a v) r) : Sem l L xs m pc Ls (.int v :: .ref a :: st) h r := by
  refine r_put (h' := sI h (16 * k + f) a v) hd hf ha hk hp (fun A b => ?_) rfl rfl rfl (fun _ => rfl) rfl rfl rfl rfl (fun F j hj => ⟨?_, rfl⟩) K
  · rw [cTy_int hr]
    refine ⟨rfl, rfl, ?_⟩
    rw [fvl_int hr]
    show Value.int (u2 (hI h) (16 * k + f) a v (16 * k + f) a) = .int v
    unfold u2
    rw [if_pos ⟨rfl, rfl⟩]
  · show u2 (hI h) (16 * k + f) a v F j = hI h F j
    unfold u2
    rw [if_neg]
    rintro ⟨z1, z2⟩
    rcases hj with hj | hj
    · exact hj z2
    · exact hj z1
theorem r_putR {a i k f v : Nat} (hd : decode (mB m) pc = .ok (.putfield i, 3)) (hf : fRes (mC m) i = some (k, f)) (ha : a < hn h) (hk : hK h a = k) (hp : putOK m k f = true) (hr : isRf k f = true) (K : Sem l L xs m (pc + 3) Ls st (sR h (16 * k + f) a v) r) : Sem l L xs m pc Ls (.ref v :: .ref a :: st) h r := by
  obtain ⟨h8, hfN, hw⟩ := fRes_ok hf
  refine r_put (h' := sR h (16 * k + f) a v) hd hf ha hk hp (fun A b => ?_) rfl rfl rfl (fun _ => rfl) rfl rfl rfl rfl (fun F j hj => ⟨rfl, ?_⟩) K
  · have ht : tv A b (.ref v) = .ref (A v) := rfl
    rw [ht]
    refine ⟨(cTy_ref h8 hfN hr (A v)).1, (cTy_ref h8 hfN hr (A v)).2, ?_⟩
    refine fvl_ref hr ?_
    show u2 (hR h) (16 * k + f) a (some v) (16 * k + f) a = some v
    unfold u2
    rw [if_pos ⟨rfl, rfl⟩]
  · show u2 (hR h) (16 * k + f) a (some v) F j = hR h F j
    unfold u2
    rw [if_neg]
    rintro ⟨z1, z2⟩
    rcases hj with hj | hj
    · exact hj z2
    · exact hj z1
theorem inA_in {i : Int32} {n : Nat} (h : inA i n = true) : vp_in i n := by
  unfold inA at h
  rw [decide_eq_true_eq] at h
  exact h
theorem r_iald {a : Nat} {i : Int32} (hd : decode (mB m) pc = .ok (.iaload, 1)) (ha : a < hn h) (hk : hK h a = 8) (hi : inA i (hN h a) = true) (K : Sem l L xs m (pc + 1) Ls (.int (hA h a i.toNatClampNeg) :: st) h r) : Sem l L xs m pc Ls (.int i :: .ref a :: st) h r := by
  refine Sem.read (fun D ca b As p e R s mid args below meth c Q A H locs cells slots ls hC hz hP hS k9 => ?_) K
  exact va_iald hC.1 hC.2.1 hC.K hP a 0 (by rw [wld_at ha, cont_int hk]) rfl (inA_in hi) hd k9
theorem r_lald {a : Nat} {i : Int32} (hd : decode (mB m) pc = .ok (.laload, 1)) (ha : a < hn h) (hk : hK h a = 12) (hi : inA i (hN h a) = true) (K : Sem l L xs m (pc + 1) Ls (.long (hL h a i.toNatClampNeg) :: st) h r) : Sem l L xs m pc Ls (.int i :: .ref a :: st) h r := by
  refine Sem.read (fun D ca b As p e R s mid args below meth c Q A H locs cells slots ls hC hz hP hS k9 => ?_) K
  exact va_lald hC.1 hC.2.1 hC.K hP a 4 (by rw [wld_at ha, cont_long hk]) rfl (inA_in hi) hd k9
theorem r_aald {a j : Nat} {i : Int32} (hd : decode (mB m) pc = .ok (.aaload, 1)) (ha : a < hn h) (hk : hK h a = 9 ∨ hK h a = 10 ∨ hK h a = 11) (hi : inA i (hN h a) = true) (hj : hQ h a i.toNatClampNeg = some j) (K : Sem l L xs m (pc + 1) Ls (.ref j :: st) h r) : Sem l L xs m pc Ls (.int i :: .ref a :: st) h r := by
  refine Sem.read (fun D ca b As p e R s mid args below meth c Q A H locs cells slots ls hC hz hP hS k9 => ?_) K
  refine va_aldq hC.1 hC.2.1 hC.K hP a (hK h a - 8) (by rw [wld_at ha, cont_row hk]) (tys_row hk) (inA_in hi) hd ?_
  show W p l e R s mid args below meth c H locs cells slots Q (F0 mid (pc + 1) ls (va_rf ((hQ h a i.toNatClampNeg).map A) :: st.map (tv A b)))
  rw [hj]
  exact k9
theorem r_alen {a : Nat} (hd : decode (mB m) pc = .ok (.arraylength, 1)) (ha : a < hn h) (hk : hK h a = 8) (K : Sem l L xs m (pc + 1) Ls (.int (Int32.ofNat (hN h a)) :: st) h r) : Sem l L xs m pc Ls (.ref a :: st) h r := by
  refine Sem.read (fun D ca b As p e R s mid args below meth c Q A H locs cells slots ls hC hz hP hS k9 => ?_) K
  exact va_alen (x := (hN h a, .inl (hA h a))) hC.1 hC.2.1 hC.K hP a 0 (by rw [wld_at ha, cont_int hk]) rfl rfl hd k9
theorem r_slen {z : Nat} (hd : decode (mB m) pc = .ok (.arraylength, 1)) (hm : mC m = 8) (K : Sem l L xs m (pc + 1) Ls (.int (Int32.ofNat L) :: st) h r) : Sem l L xs m pc Ls (.retAddr z :: st) h r := by
  refine Sem.read (fun D ca b As p e R s mid args below meth c Q A H locs cells slots ls hC hz hP hS k9 => ?_) K
  obtain ⟨hx, hb, hr, hml, hown, hts, hlk, hnm9, htab, hRf, hRl, hK, hG, hZ, hA, hlaw, hcl9, hst⟩ := id hC
  obtain ⟨q1, q2, q3⟩ := hlaw hm
  exact va_slen hC.1 hC.2.1 q1 q2 q3 hS hd k9
theorem r_sald {z : Nat} {i : Int32} (hd : decode (mB m) pc = .ok (.iaload, 1)) (hm : mC m = 8) (hi : inA i L = true) (K : Sem l L xs m (pc + 1) Ls (.int (xs i.toNatClampNeg) :: st) h r) : Sem l L xs m pc Ls (.int i :: .retAddr z :: st) h r := by
  refine Sem.read (fun D ca b As p e R s mid args below meth c Q A H locs cells slots ls hC hz hP hS k9 => ?_) K
  obtain ⟨hx, hb, hr, hml, hown, hts, hlk, hnm9, htab, hRf, hRl, hK, hG, hZ, hA, hlaw, hcl9, hst⟩ := id hC
  obtain ⟨q1, q2, q3⟩ := hlaw hm
  exact va_sld hC.1 hC.2.1 q1 q2 q3 hS (inA_in hi) hd k9
theorem u2_row {α : Type} {f : Nat → Nat → α} {a j : Nat} {v : α} {b : Nat} (h : b ≠ a) : u2 f a j v b = f b := by
  funext z
  unfold u2
  rw [if_neg (fun q => h q.1)]
theorem u2_self {f : Nat → Nat → Int32} {a j : Nat} {v : Int32} : u2 f a j v a = upd (f a) j v := by
  funext z
  unfold u2 upd
  simp
theorem u2_selfL {f : Nat → Nat → Int64} {a j : Nat} {v : Int64} : u2 f a j v a = vp_updL (f a) j v := by
  funext z
  unfold u2 vp_updL
  simp
theorem r_iast {a : Nat} {i v : Int32} (hd : decode (mB m) pc = .ok (.iastore, 1)) (ha : a < hn h) (hk : hK h a = 8) (hi : inA i (hN h a) = true) (K : Sem l L xs m (pc + 1) Ls st (sA h a i.toNatClampNeg v) r) : Sem l L xs m pc Ls (.int v :: .int i :: .ref a :: st) h r := by
  refine Sem.heap (h' := sA h a i.toNatClampNeg v) rfl rfl rfl (fun D ca b As p e R s mid args below meth c Q A H locs cells slots ls hC hz hP hD hS k9 => ?_) K
  have hset : (wld ca A h).set a (A a, .inl (ca 0, hN h a, .inl (upd (hA h a) i.toNatClampNeg v))) = wld ca A (sA h a i.toNatClampNeg v) := by
    refine wld_set rfl ?_ (fun j hj => cont_other rfl (fun _ => rfl) (fun _ => rfl) rfl (u2_row hj) rfl rfl)
    rw [cont_int (h := sA h a i.toNatClampNeg v) hk]
    show _ = Sum.inl (ca 0, hN h a, Sum.inl (u2 (hA h) a i.toNatClampNeg v a))
    rw [u2_self]
  refine va_iast hC.1 hC.2.1 hC.K hP hD hS a 0 (by rw [wld_at ha, cont_int hk]) rfl (inA_in hi) hd (fun H1 locs1 q1 q2 q3 => ?_)
  rw [hset] at q1 q2
  exact k9 H1 locs1 q1 q2 q3
theorem r_last {a : Nat} {i : Int32} {v : Int64} (hd : decode (mB m) pc = .ok (.lastore, 1)) (ha : a < hn h) (hk : hK h a = 12) (hi : inA i (hN h a) = true) (K : Sem l L xs m (pc + 1) Ls st (sL h a i.toNatClampNeg v) r) : Sem l L xs m pc Ls (.long v :: .int i :: .ref a :: st) h r := by
  refine Sem.heap (h' := sL h a i.toNatClampNeg v) rfl rfl rfl (fun D ca b As p e R s mid args below meth c Q A H locs cells slots ls hC hz hP hD hS k9 => ?_) K
  have hset : (wld ca A h).set a (A a, .inl (ca 4, hN h a, .inr (.inl (vp_updL (hL h a) i.toNatClampNeg v)))) = wld ca A (sL h a i.toNatClampNeg v) := by
    refine wld_set rfl ?_ (fun j hj => cont_other rfl (fun _ => rfl) (fun _ => rfl) rfl rfl rfl (u2_row hj))
    rw [cont_long (h := sL h a i.toNatClampNeg v) hk]
    show _ = Sum.inl (ca 4, hN h a, Sum.inr (Sum.inl (u2 (hL h) a i.toNatClampNeg v a)))
    rw [u2_selfL]
  refine va_last hC.1 hC.2.1 hC.K hP hD hS a 4 (by rw [wld_at ha, cont_long hk]) rfl (inA_in hi) hd (fun H1 locs1 q1 q2 q3 => ?_)
  rw [hset] at q1 q2
  exact k9 H1 locs1 q1 q2 q3
theorem r_aast {a v : Nat} {i : Int32} (hd : decode (mB m) pc = .ok (.aastore, 1)) (ha : a < hn h) (hv : v < hn h) (hk : hK h a = 9 ∨ hK h a = 10 ∨ hK h a = 11) (hi : inA i (hN h a) = true) (hvk : hK h v = rowK (hK h a)) (K : Sem l L xs m (pc + 1) Ls st (sQ h a i.toNatClampNeg v) r) : Sem l L xs m pc Ls (.ref v :: .int i :: .ref a :: st) h r := by
  refine Sem.heap (h' := sQ h a i.toNatClampNeg v) rfl rfl rfl (fun D ca b As p e R s mid args below meth c Q A H locs cells slots ls hC hz hP hD hS k9 => ?_) K
  have h8 : rowK (hK h a) < 8 := by rcases hk with e | e | e <;> rw [e] <;> decide
  have hset : (wld ca A h).set a (A a, .inl (ca (hK h a - 8), hN h a, .inr (.inr (.inr (.inr (va_up (fun j => (hQ h a j).map A) i.toNatClampNeg (some (A v)))))))) = wld ca A (sQ h a i.toNatClampNeg v) := by
    refine wld_set rfl ?_ (fun j hj => cont_other rfl (fun _ => rfl) (fun _ => rfl) rfl rfl (u2_row hj) rfl)
    rw [cont_row (h := sQ h a i.toNatClampNeg v) hk]
    show _ = Sum.inl (ca (hK h a - 8), hN h a, Sum.inr (Sum.inr (Sum.inr (Sum.inr (fun j => (u2 (hQ h) a i.toNatClampNeg (some v) a j).map A)))))
    congr 7
    funext j
    unfold va_up u2
    by_cases hj : j = i.toNatClampNeg
    · rw [if_pos hj, if_pos ⟨rfl, hj⟩]; rfl
    · rw [if_neg hj, if_neg (fun q => hj q.2)]
  refine va_astq hC.1 hC.2.1 hC.K hP hD hS a (hK h a - 8) v (rowK (hK h a)) (r := (cR (rowK (hK h a)), cT (rowK (hK h a)), cN (rowK (hK h a)))) (by rw [wld_at ha, cont_row hk]) (tys_row hk) (by rw [wld_at hv, cont_obj hvk h8]) (cls_ok _ h8) (inA_in hi) hd (fun H1 locs1 q1 q2 q3 => ?_)
  rw [hset] at q1 q2
  exact k9 H1 locs1 q1 q2 q3
theorem r_copy {a d : Nat} {sp dp n : Int32} {i : Nat} (hd : decode (mB m) pc = .ok (.invokestatic i, 3)) (ha : a < hn h) (hdd : d < hn h) (h0 : mV m ≠ 0) (hw : wds st ≤ 8) (hk : hK h a = 8) (hk2 : hK h d = 8) (h1 : 0 ≤ sp) (h2 : 0 ≤ dp) (h3 : 0 ≤ n) (h4 : sp.toNatClampNeg + n.toNatClampNeg ≤ hN h a) (h5 : dp.toNatClampNeg + n.toNatClampNeg ≤ hN h d)
    (hcp : Cond.methodLink (ow (mC m)) i arraycopyName ∈ GW ∧ Cond.native arraycopyName ∈ GW ∧ Cond.static arraycopyName ∈ GW ∧ Cond.initialized "java/lang/System" ∈ GW)
    (K : Sem l L xs m (pc + 3) Ls st (cpA h a sp.toNatClampNeg d dp.toNatClampNeg n.toNatClampNeg) r) : Sem l L xs m pc Ls (.int n :: .int dp :: .ref d :: .int sp :: .ref a :: st) h r := by
  refine Sem.heap (h' := cpA h a sp.toNatClampNeg d dp.toNatClampNeg n.toNatClampNeg) rfl rfl rfl (fun D ca b As p e R s mid args below meth c Q A H locs cells slots ls hC hz hP hD hS k9 => ?_) K
  have hset : (wld ca A h).set d (A d, .inl (ca 0, hN h d, .inl (va_cpy (hA h a) (hA h d) sp.toNatClampNeg dp.toNatClampNeg n.toNatClampNeg))) = wld ca A (cpA h a sp.toNatClampNeg d dp.toNatClampNeg n.toNatClampNeg) := by
    refine wld_set rfl ?_ (fun j hj => cont_other rfl (fun _ => rfl) (fun _ => rfl) rfl ?_ rfl rfl)
    · rw [cont_int (h := cpA h a sp.toNatClampNeg d dp.toNatClampNeg n.toNatClampNeg) hk2]
      show _ = Sum.inl (ca 0, hN h d, Sum.inl (fun j => if d = d then va_cpy (hA h a) (hA h d) sp.toNatClampNeg dp.toNatClampNeg n.toNatClampNeg j else hA h d j))
      exact congrArg (fun f => Sum.inl (ca 0, hN h d, Sum.inl f)) (funext fun j => (if_pos rfl).symm)
    · funext z
      show (if j = d then va_cpy (hA h a) (hA h d) sp.toNatClampNeg dp.toNatClampNeg n.toNatClampNeg z else hA h j z) = hA h j z
      rw [if_neg hj]
  obtain ⟨hx, hb, hr, hml, hown, hts, hlk, hnm9, htab, hRf, hRl, hK, hG, hZ, hA9, hlaw, hcl9, hst⟩ := id hC
  refine va_copyi (s := s) (ty := .int) hC.1 hC.2.1 (by rw [hml, hz]) hC.own (hts _ hcp.1) (hts _ hcp.2.1) (hts _ hcp.2.2.1) (hts _ hcp.2.2.2) hC.K hP hD hS a d 0 0 (by rw [wld_at ha, cont_int hk]) (by rw [wld_at hdd, cont_int hk2]) rfl rfl rfl (Int32.not_lt.mpr h1) (Int32.not_lt.mpr h2) (Int32.not_lt.mpr h3) h4 h5 (fun _ _ => rfl) (by rw [hRf]; omega) ?_ hd (fun H1 locs1 q1 q2 q3 => ?_)
  · refine Nat.le_trans ?_ hRl
    have e : nativeFrameWords "java/lang/System" "arraycopy" 5 + 11 ≤ 31 := by decide +kernel
    have e2 : ((st.map (tv A b)).map fun v => v.category).sum = wds st := by
      unfold wds
      rw [List.map_map]
      congr 2
      funext v
      exact tv_cat A b v
    omega
  · rw [hset] at q1 q2
    exact k9 H1 locs1 q1 q2 q3
theorem wds_tv (A : Nat → Nat) (b : Nat) (st : List Value) : ((st.map (tv A b)).map fun v => v.category).sum = wds st := by
  unfold wds
  rw [List.map_map]
  congr 2
  funext v
  exact tv_cat A b v
theorem r_min {x y : Int32} {i : Nat} (hd : decode (mB m) pc = .ok (.invokestatic i, 3)) (hmo : hc h ≤ hc (rH r) ∧ hs h ≤ hs (rH r)) (h0 : mV m ≠ 0) (hw : wds st ≤ 8)
    (hcp : Cond.methodLink (ow (mC m)) i Lib.Math.min.name ∈ GW ∧ Cond.static Lib.Math.min.name ∈ GW ∧ Cond.initialized "java/lang/Math" ∈ GW ∧ Cond.code Lib.Math.min.name Lib.Math.min.code 2 (some .int) ∈ GW)
    (K : Sem l L xs m (pc + 3) Ls (.int (if y < x then y else x) :: st) h r) : Sem l L xs m pc Ls (.int y :: .int x :: st) h r := by
  intro D ca b As p e R s mid args below meth c Q c0 s0 n0 A0 hC hE A H locs cells slots ls h1 h2 h3 h4 h5 h6
  obtain ⟨hx, hb, hr, hml, hown, hts, hlk, hnm9, htab, hRf, hRl, hK, hG, hZ, hA9, hlaw, hcl9, hst⟩ := id hC
  have q4 := h3.2.2.2.1
  have q5 := h3.2.2.2.2
  exact va_mmin hC.1 hC.2.1 (by rw [hml, h6.1]) hC.own (hts _ hcp.1) (hts _ hcp.2.1) (hts _ hcp.2.2.1) (hts _ hcp.2.2.2) (by rw [hRf]; omega) (by rw [wds_tv]; exact Nat.le_trans (by omega) hRl) (by omega) (by omega) hd (K D ca b As p e R s mid args below meth c Q c0 s0 n0 A0 hC hE A H locs cells slots ls h1 h2 h3 h4 h5 h6)
theorem r_objInit {a i : Nat} (hd : decode (mB m) pc = .ok (.invokespecial i, 3)) (h0 : mV m ≠ 0) (hw : wds st ≤ 8)
    (hcp : Cond.methodLink (ow (mC m)) i objectInit ∈ GW ∧ Cond.instanceMethod objectInit ∈ GW ∧ Cond.code objectInit ⟨#[0xb1]⟩ 1 none ∈ GW)
    (K : Sem l L xs m (pc + 3) Ls st h r) : Sem l L xs m pc Ls (.ref a :: st) h r := by
  refine Sem.read (fun D ca b As p e R s mid args below meth c Q A H locs cells slots ls hC hz hP hS k9 => ?_) K
  obtain ⟨hx, hb, hr, hml, hown, hts, hlk, hnm9, htab, hRf, hRl, hK, hG, hZ, hA9, hlaw, hcl9, hst⟩ := id hC
  exact W.objInit hC.1 hC.2.1 hC.own (hts _ hcp.1) (hts _ hcp.2.1) (hts _ hcp.2.2) rfl (by rw [hml]; exact hz) rfl hd (by rw [hRf]; omega) (by show 2 * 0 + _ + 12 ≤ _; rw [wds_tv]; exact Nat.le_trans (by omega) hRl) k9
end
end
section
/-! THE ROWS THAT MAKE -/
section
variable {l : Launch} {L : Nat} {xs : Nat → Int32} {m : MD} {pc : Nat} {Ls st : List Value} {h : AH} {r : Res}
theorem tv_ext {A A' : Nat → Nat} {b n : Nat} {v : Value} (hA : ∀ i, i < n → A' i = A i) (hv : ∀ i, v = .ref i → i < n) : tv A' b v = tv A b v := by
  cases v <;> try rfl
  rename_i a
  show Value.ref (A' a) = .ref (A a)
  rw [hA a (hv a rfl)]
theorem tvl_ext {A A' : Nat → Nat} {b n : Nat} {st : List Value} (hA : ∀ i, i < n → A' i = A i) (hs : WFl n st) : st.map (tv A' b) = st.map (tv A b) := List.map_congr_left fun v hv => tv_ext hA (fun i e => hs i (e ▸ hv))
theorem lvO_ext {A A' : Nat → Nat} {b n : Nat} {Ls : List Value} (hA : ∀ i, i < n → A' i = A i) (hs : WFl n Ls) {q : Nat × Value} (hq : q ∈ lvO A' b Ls) : q ∈ lvO A b Ls := by
  obtain ⟨v, h1, h2, h3⟩ := mem_lvO.mp hq
  exact mem_lvO.mpr ⟨v, h1, h2, by rw [h3]; exact tv_ext hA (fun i e => hs i (e ▸ List.mem_of_getElem? h1))⟩
theorem map_ext {A A' : Nat → Nat} {n : Nat} {o : Option Nat} (hA : ∀ i, i < n → A' i = A i) (ho : ∀ j, o = some j → j < n) : o.map A' = o.map A := by
  cases o with
  | none => rfl
  | some j => show some (A' j) = some (A j); rw [hA j (ho j rfl)]
theorem cont_ext {ca : Nat → ClassId} {A A' : Nat → Nat} {h : AH} (hA : ∀ i, i < hn h → A' i = A i) (hw : WFh h) (j : Nat) : cont ca A' h j = cont ca A h j := by
  have e : ∀ k s, fvl A' h k j s = fvl A h k j s := fun k s => by unfold fvl; rw [map_ext hA (hw.1 _ _)]
  have e2 : (fun z => (hQ h j z).map A') = (fun z => (hQ h j z).map A) := funext fun z => map_ext hA (hw.2 _ _)
  unfold cont
  rw [e2, show fvl A' h (hK h j) j = fvl A h (hK h j) j from funext fun s => e _ s]
theorem cont_nw {ca : Nat → ClassId} {A : Nat → Nat} {h : AH} {k len sl j : Nat} (hj : j ≠ hn h) : cont ca A (nw h k len sl) j = cont ca A h j := by
  refine cont_other ?_ (fun F => ?_) (fun F => ?_) ?_ ?_ ?_ ?_
  · show (if j = hn h then k else hK h j) = hK h j; rw [if_neg hj]
  · show (if j = hn h then 0 else hI h F j) = hI h F j; rw [if_neg hj]
  · show (if j = hn h then none else hR h F j) = hR h F j; rw [if_neg hj]
  · show (if j = hn h then len else hN h j) = hN h j; rw [if_neg hj]
  · funext z; show (if j = hn h then 0 else hA h j z) = hA h j z; rw [if_neg hj]
  · funext z; show (if j = hn h then none else hQ h j z) = hQ h j z; rw [if_neg hj]
  · funext z; show (if j = hn h then 0 else hL h j z) = hL h j z; rw [if_neg hj]
/-- what every making owes -/
theorem Sem.make {k len sl pc' : Nat} {st0 : List Value} (hw : WFh h) (hLs : WFl (hn h) Ls) (hst : WFl (hn h) st)
    (hrow : ∀ (D : va_G) (ca : Nat → ClassId) (b : Nat) (As : Nat → Prop) (p : Program) (e : Env) (R : Room) (s : State) (mid : MethodId) (args : Array Value) (below : List Frame) (meth : Method) (c : Code) (Q : State → Prop) (A : Nat → Nat) (H : Heap) (locs : List Loc) (cells slots : Nat) (ls : Array Slot),
      Cx l L xs m D ca b As p R s mid args meth c → ls.size = mM m → va_P D vwCl (wld ca A h) H → va_D As (wld ca A h) → va_S As s.heap H locs → cells + 1 ≤ R.cells → slots + sl ≤ R.slots →
      (∀ (q : Nat) (H1 : Heap), va_P D vwCl (wld ca A h ++ [(q, cont ca (fun j => if j = hn h then q else A j) (nw h k len sl) (hn h))]) H1 → va_D As (wld ca A h ++ [(q, cont ca (fun j => if j = hn h then q else A j) (nw h k len sl) (hn h))]) → va_S As s.heap H1 locs → W p l e R s mid args below meth c H1 locs (cells + 1) (slots + sl) Q (F0 mid pc' ls (.ref q :: st.map (tv A b)))) → W p l e R s mid args below meth c H locs cells slots Q (F0 mid pc ls (st0.map (tv A b))))
    (hmo : hc (nw h k len sl) ≤ hc (rH r) ∧ hs (nw h k len sl) ≤ hs (rH r)) (K : Sem l L xs m pc' Ls (.ref (hn h) :: st) (nw h k len sl) r) : Sem l L xs m pc Ls st0 h r := by
  intro D ca b As p e R s mid args below meth c Q c0 s0 n0 A0 hC hE A H locs cells slots ls h1 h2 h3 h4 h5 h6
  have q4 := h3.2.2.2.1
  have q5 := h3.2.2.2.2
  have m1 : hc h + 1 ≤ hc (rH r) := hmo.1
  have m2 : hs h + sl ≤ hs (rH r) := hmo.2
  refine hrow D ca b As p e R s mid args below meth c Q A H locs cells slots ls hC h6.1 h3.1 h3.2.1 h3.2.2.1 (by omega) (by omega) (fun q H1 p1 p2 p3 => ?_)
  generalize hA' : (fun j => if j = hn h then q else A j) = A' at p1 p2
  have ex : ∀ i, i < hn h → A' i = A i := fun i hi => by rw [← hA']; show (if i = hn h then q else A i) = A i; rw [if_neg (by omega)]
  have eq : A' (hn h) = q := by rw [← hA']; show (if hn h = hn h then q else A (hn h)) = q; rw [if_pos rfl]
  have hpush : wld ca A h ++ [(q, cont ca A' (nw h k len sl) (hn h))] = wld ca A' (nw h k len sl) := wld_push rfl ex eq rfl (fun j hj => by rw [cont_nw (by omega), cont_ext ex hw])
  rw [hpush] at p1 p2
  have K9 := K D ca b As p e R s mid args below meth c Q c0 s0 n0 A0 hC hE A' H1 locs (cells + 1) (slots + sl) ls (by show n0 ≤ hn h + 1; omega) (fun i hi => by rw [ex i (by omega)]; exact h2 i hi) ⟨p1, p2, p3, by show cells + 1 + c0 = hc h + 1; omega, by show slots + sl + s0 = hs h + sl; omega⟩ h4 h5 (lv_mono h6 (fun x hx => lvO_ext ex hLs hx))
  have e9 : (Value.ref (hn h) :: st).map (tv A' b) = .ref q :: st.map (tv A b) := by
    rw [List.map_cons, tvl_ext ex hst]
    show Value.ref (A' (hn h)) :: _ = _
    rw [eq]
  rw [e9] at K9
  exact K9
def okN (q : Nat × Nat × Nat × List Nat) : Bool := decide (q.2.2.1 < 8) && atW (q.2.2.2.getD 0 100000) (.classLink (ow q.1) q.2.1 (cR q.2.2.1)) && atW (q.2.2.2.getD 1 100000) (.instantiable (cR q.2.2.1) (cN q.2.2.1)) && atW (q.2.2.2.getD 2 100000) (.initialized (cR q.2.2.1))
set_option maxRecDepth 100000 in
theorem nRT_ok : nRT.all okN = true := by decide +kernel
theorem nRes_ok {c i k : Nat} (h : nRes c i = some k) : k < 8 ∧ Cond.classLink (ow c) i (cR k) ∈ GW ∧ Cond.instantiable (cR k) (cN k) ∈ GW ∧ Cond.initialized (cR k) ∈ GW := by
  unfold nRes at h
  obtain ⟨q, hq, he⟩ := Option.map_eq_some_iff.mp h
  have hp := List.find?_some hq
  rw [Bool.and_eq_true, beq_iff_eq, beq_iff_eq] at hp
  have ho := List.all_eq_true.mp nRT_ok q (List.mem_of_find?_eq_some hq)
  unfold okN at ho
  rw [Bool.and_eq_true, Bool.and_eq_true, Bool.and_eq_true, decide_eq_true_eq] at ho
  cases he
  exact ⟨ho.1.1.1, by rw [← hp.1, ← hp.2]; exact atW_mem ho.1.1.2, atW_mem ho.1.2, atW_mem ho.2⟩
theorem dflt_ok : ∀ k, k < 8 → ∀ j, j < cN k → defaultValue (cTy k j) = if isRf k j then .null else .int 0 := by decide +kernel
theorem r_new {i k : Nat} (hd : decode (mB m) pc = .ok (.new i, 3)) (hk : nRes (mC m) i = some k) (hw : WFh h) (hLs : WFl (hn h) Ls) (hst : WFl (hn h) st) (hmo : hc (nw h k 0 (cN k)) ≤ hc (rH r) ∧ hs (nw h k 0 (cN k)) ≤ hs (rH r)) (K : Sem l L xs m (pc + 3) Ls (.ref (hn h) :: st) (nw h k 0 (cN k)) r) : Sem l L xs m pc Ls st h r := by
  obtain ⟨h8, w1, w2, w3⟩ := nRes_ok hk
  refine Sem.make hw hLs hst (fun D ca b As p e R s mid args below meth c Q A H locs cells slots ls hC hz hP hD hS hc1 hs1 k9 => ?_) hmo K
  obtain ⟨hx, hb, hr, hml, hown, hts, hlk, hnm9, htab, hRf, hRl, hK9, hG, hZ, hA9, hlaw, hcl9, hst9⟩ := id hC
  refine va_new (ci := k) (fs := (List.range (cN k)).map (fun s => if isRf k s then .null else .int 0)) hC.1 hC.2.1 hC.wd (cls_in k h8) (cTy k) (cls_ty k h8) hC.own (hts _ w1) (hts _ w2) (hts _ w3) hC.K hP hD hS hA9 (cls_ok k h8) (fun j hj => ?_) hc1 hs1 hd (fun q H1 p1 p2 p3 => ?_)
  · rw [dflt_ok k h8 j hj]
    unfold vp_V
    rw [List.getD_eq_getElem?_getD, List.getElem?_map, List.getElem?_range hj]
    rfl
  · have e : cont ca (fun j => if j = hn h then q else A j) (nw h k 0 (cN k)) (hn h) = .inr (k, (List.range (cN k)).map (fun s => if isRf k s then .null else .int 0)) := by
      rw [cont_obj (k := k) (by show (if hn h = hn h then k else hK h (hn h)) = k; rw [if_pos rfl]) h8]
      congr 3
      funext s
      unfold fvl
      have e1 : hR (nw h k 0 (cN k)) (16 * k + s) (hn h) = none := by show (if hn h = hn h then none else _) = none; rw [if_pos rfl]
      have e2 : hI (nw h k 0 (cN k)) (16 * k + s) (hn h) = 0 := by show (if hn h = hn h then 0 else _) = (0 : Int32); rw [if_pos rfl]
      rw [e1, e2]
      rfl
    refine k9 q H1 ?_ ?_ p3
    · rw [e]; exact p1
    · rw [e]; exact p2
theorem arr_words : Cond.arrayClass .int ∈ GW ∧ Cond.arrayClass .long ∈ GW := by
  constructor <;> exact List.mem_filter.mpr ⟨by decide +kernel, rfl⟩
theorem tys_last {D : va_G} {ca : Nat → ClassId} {s : State} {cA : ClassId} {ty : FieldType} {k : Nat} (hK : va_K D vwCl (tysOf ca) s) (hK2 : va_K D vwCl (tysOf ca ++ [(cA, ty)]) s) (hk : (tysOf ca)[k]? = some (ca k, ty)) : cA = ca k := by
  have h1 := (hK.2 k _ hk).2
  have h2 := (hK2.2 5 (cA, ty) (by rfl)).2
  cases ty with
  | object C =>
    obtain ⟨_, _, _, _, _, z1⟩ := h1
    obtain ⟨_, _, _, _, _, z2⟩ := h2
    exact Option.some.inj (z2.symm.trans z1)
  | _ => exact Option.some.inj (Eq.symm (Eq.trans (Eq.symm h1) h2))
theorem r_newI {n : Int32} (hd : decode (mB m) pc = .ok (.newarray .int, 2)) (h0 : 0 ≤ n) (h1 : n ≤ 10000) (hw : WFh h) (hLs : WFl (hn h) Ls) (hst : WFl (hn h) st) (hmo : hc (nw h 8 n.toNatClampNeg n.toNatClampNeg) ≤ hc (rH r) ∧ hs (nw h 8 n.toNatClampNeg n.toNatClampNeg) ≤ hs (rH r)) (K : Sem l L xs m (pc + 2) Ls (.ref (hn h) :: st) (nw h 8 n.toNatClampNeg n.toNatClampNeg) r) : Sem l L xs m pc Ls (.int n :: st) h r := by
  refine Sem.make hw hLs hst (fun D ca b As p e R s mid args below meth c Q A H locs cells slots ls hC hz hP hD hS hc1 hs1 k9 => ?_) hmo K
  obtain ⟨hx, hb, hr, hml, hown, hts, hlk, hnm9, htab, hRf, hRl, hK9, hG, hZ, hA9, hlaw, hcl9, hst9⟩ := id hC
  have hsz : n.toNatClampNeg ≤ 10000 := by
    have e1 := Int32.le_iff_toInt_le.mp h1
    have e2 : (10000 : Int32).toInt = 10000 := by decide
    have e3 := Int32.le_iff_toInt_le.mp h0
    have e4 : (0 : Int32).toInt = 0 := by decide
    have e5 : n.toNatClampNeg = n.toInt.toNat := rfl
    omega
  refine va_newa (atype := .int) (a0 := (n.toNatClampNeg, .inl (fun _ => 0))) hC.1 hC.2.1 (hts _ arr_words.1) rfl hC.K hP hD hS hA9 (fun _ => rfl) (Int32.not_lt.mpr h0) rfl (by show n.toNatClampNeg * 4 ≤ 536870912; omega) hc1 hs1 hd (fun q cA H1 pK p1 p2 p3 => ?_)
  have ec : cA = ca 0 := tys_last (k := 0) hK9 pK rfl
  subst ec
  have e : cont ca (fun j => if j = hn h then q else A j) (nw h 8 n.toNatClampNeg n.toNatClampNeg) (hn h) = .inl (ca 0, n.toNatClampNeg, .inl (fun _ => 0)) := by
    rw [cont_int (by show (if hn h = hn h then 8 else hK h (hn h)) = 8; rw [if_pos rfl])]
    have e1 : hN (nw h 8 n.toNatClampNeg n.toNatClampNeg) (hn h) = n.toNatClampNeg := by show (if hn h = hn h then _ else _) = n.toNatClampNeg; rw [if_pos rfl]
    have e2 : hA (nw h 8 n.toNatClampNeg n.toNatClampNeg) (hn h) = fun _ => 0 := by funext z; show (if hn h = hn h then 0 else _) = (0 : Int32); rw [if_pos rfl]
    rw [e1, e2]
  refine k9 q H1 ?_ ?_ p3
  · rw [e]; exact p1
  · rw [e]; exact p2
theorem r_newL {n : Int32} (hd : decode (mB m) pc = .ok (.newarray .long, 2)) (h0 : 0 ≤ n) (h1 : n ≤ 10000) (hw : WFh h) (hLs : WFl (hn h) Ls) (hst : WFl (hn h) st) (hmo : hc (nw h 12 n.toNatClampNeg n.toNatClampNeg) ≤ hc (rH r) ∧ hs (nw h 12 n.toNatClampNeg n.toNatClampNeg) ≤ hs (rH r)) (K : Sem l L xs m (pc + 2) Ls (.ref (hn h) :: st) (nw h 12 n.toNatClampNeg n.toNatClampNeg) r) : Sem l L xs m pc Ls (.int n :: st) h r := by
  refine Sem.make hw hLs hst (fun D ca b As p e R s mid args below meth c Q A H locs cells slots ls hC hz hP hD hS hc1 hs1 k9 => ?_) hmo K
  obtain ⟨hx, hb, hr, hml, hown, hts, hlk, hnm9, htab, hRf, hRl, hK9, hG, hZ, hA9, hlaw, hcl9, hst9⟩ := id hC
  have hsz : n.toNatClampNeg ≤ 10000 := by
    have e1 := Int32.le_iff_toInt_le.mp h1
    have e2 : (10000 : Int32).toInt = 10000 := by decide
    have e3 := Int32.le_iff_toInt_le.mp h0
    have e4 : (0 : Int32).toInt = 0 := by decide
    have e5 : n.toNatClampNeg = n.toInt.toNat := rfl
    omega
  refine va_newa (atype := .long) (a0 := (n.toNatClampNeg, .inr (.inl (fun _ => 0)))) hC.1 hC.2.1 (hts _ arr_words.2) rfl hC.K hP hD hS hA9 (fun _ => rfl) (Int32.not_lt.mpr h0) rfl (by show n.toNatClampNeg * 8 ≤ 536870912; omega) hc1 hs1 hd (fun q cA H1 pK p1 p2 p3 => ?_)
  have ec : cA = ca 4 := tys_last (k := 4) hK9 pK rfl
  subst ec
  have e : cont ca (fun j => if j = hn h then q else A j) (nw h 12 n.toNatClampNeg n.toNatClampNeg) (hn h) = .inl (ca 4, n.toNatClampNeg, .inr (.inl (fun _ => 0))) := by
    rw [cont_long (by show (if hn h = hn h then 12 else hK h (hn h)) = 12; rw [if_pos rfl])]
    have e1 : hN (nw h 12 n.toNatClampNeg n.toNatClampNeg) (hn h) = n.toNatClampNeg := by show (if hn h = hn h then _ else _) = n.toNatClampNeg; rw [if_pos rfl]
    have e2 : hL (nw h 12 n.toNatClampNeg n.toNatClampNeg) (hn h) = fun _ => 0 := by funext z; show (if hn h = hn h then 0 else _) = (0 : Int64); rw [if_pos rfl]
    rw [e1, e2]
  refine k9 q H1 ?_ ?_ p3
  · rw [e]; exact p1
  · rw [e]; exact p2
def okQ (q : Nat × Nat × Nat × Nat) : Bool := decide (q.2.2.1 = 9 ∨ q.2.2.1 = 10 ∨ q.2.2.1 = 11) && atW q.2.2.2 (.classLink (ow q.1) q.2.1 (cR (rowK q.2.2.1)))
set_option maxRecDepth 100000 in
theorem qRT_ok : qRT.all okQ = true := by decide +kernel
theorem qRes_ok {c i k : Nat} (h : qRes c i = some k) : (k = 9 ∨ k = 10 ∨ k = 11) ∧ Cond.classLink (ow c) i (cR (rowK k)) ∈ GW := by
  unfold qRes at h
  obtain ⟨q, hq, he⟩ := Option.map_eq_some_iff.mp h
  have hp := List.find?_some hq
  rw [Bool.and_eq_true, beq_iff_eq, beq_iff_eq] at hp
  have ho := List.all_eq_true.mp qRT_ok q (List.mem_of_find?_eq_some hq)
  unfold okQ at ho
  rw [Bool.and_eq_true, decide_eq_true_eq] at ho
  cases he
  exact ⟨ho.1, by rw [← hp.1, ← hp.2]; exact atW_mem ho.2⟩
theorem r_newQ {i k : Nat} {n : Int32} (hd : decode (mB m) pc = .ok (.anewarray i, 3)) (hk : qRes (mC m) i = some k) (h0 : 0 ≤ n) (h1 : n ≤ 10000) (hw : WFh h) (hLs : WFl (hn h) Ls) (hst : WFl (hn h) st) (hmo : hc (nw h k n.toNatClampNeg n.toNatClampNeg) ≤ hc (rH r) ∧ hs (nw h k n.toNatClampNeg n.toNatClampNeg) ≤ hs (rH r)) (K : Sem l L xs m (pc + 3) Ls (.ref (hn h) :: st) (nw h k n.toNatClampNeg n.toNatClampNeg) r) : Sem l L xs m pc Ls (.int n :: st) h r := by
  obtain ⟨hk3, w1⟩ := qRes_ok hk
  refine Sem.make hw hLs hst (fun D ca b As p e R s mid args below meth c Q A H locs cells slots ls hC hz hP hD hS hc1 hs1 k9 => ?_) hmo K
  obtain ⟨hx, hb, hr, hml, hown, hts, hlk, hnm9, htab, hRf, hRl, hK9, hG, hZ, hA9, hlaw, hcl9, hst9⟩ := id hC
  have hsz : n.toNatClampNeg ≤ 10000 := by
    have e1 := Int32.le_iff_toInt_le.mp h1
    have e2 : (10000 : Int32).toInt = 10000 := by decide
    have e3 := Int32.le_iff_toInt_le.mp h0
    have e4 : (0 : Int32).toInt = 0 := by decide
    have e5 : n.toNatClampNeg = n.toInt.toNat := rfl
    omega
  have hao : va_AO (cR (rowK k)) s := hG.2.2.2.2.2 _ (by rcases hk3 with e | e | e <;> rw [e] <;> simp [rowK, cR])
  refine va_newq hC.1 hC.2.1 hC.own (hts _ w1) hao hC.K hP hD hS hA9 (Int32.not_lt.mpr h0) rfl (by omega) hc1 hs1 hd (fun q cA H1 pK p1 p2 p3 => ?_)
  have ec : cA = ca (k - 8) := tys_last (k := k - 8) hK9 pK (tys_row hk3)
  subst ec
  have e : cont ca (fun j => if j = hn h then q else A j) (nw h k n.toNatClampNeg n.toNatClampNeg) (hn h) = .inl (ca (k - 8), n.toNatClampNeg, .inr (.inr (.inr (.inr (fun _ => none))))) := by
    have ek : hK (nw h k n.toNatClampNeg n.toNatClampNeg) (hn h) = k := by show (if hn h = hn h then k else hK h (hn h)) = k; rw [if_pos rfl]
    rw [cont_row (by rw [ek]; exact hk3), ek]
    have e1 : hN (nw h k n.toNatClampNeg n.toNatClampNeg) (hn h) = n.toNatClampNeg := by show (if hn h = hn h then _ else _) = n.toNatClampNeg; rw [if_pos rfl]
    have e2 : ∀ z, hQ (nw h k n.toNatClampNeg n.toNatClampNeg) (hn h) z = none := fun z => by show (if hn h = hn h then none else _) = none; rw [if_pos rfl]
    rw [e1]
    congr 7
    funext z
    rw [e2]
    rfl
  refine k9 q H1 ?_ ?_ p3
  · rw [e]; exact p1
  · rw [e]; exact p2
end
end
section
/-! CALLS: a callee's run is its contract -/
section
variable {l : Launch} {L : Nat} {xs : Nat → Int32} {m y : MD} {pc : Nat} {Ls st vs : List Value} {h h' : AH} {r : Res}
def flatV (vs : List Value) : List Value := vs.flatMap (fun v => if v.category = 2 then [v, .null] else [v])
theorem flatV_args {A : Nat → Nat} {b : Nat} : ∀ (vs : List Value) (i0 i : Nat) (v : Value), (flatV vs)[i]? = some v → v ≠ .null → (i0 + i, tv A b v) ∈ lv_args i0 (vs.map (tv A b))
  | [], i0, i, v, h, _ => by simp [flatV] at h
  | w :: vs, i0, i, v, h, hn => by
    unfold flatV at h
    rw [List.flatMap_cons] at h
    rw [List.map_cons]
    unfold lv_args
    rw [tv_cat]
    by_cases hc : w.category = 2
    · rw [if_pos hc] at h ⊢
      match i, h with
      | 0, h => cases h; exact List.mem_cons_self
      | 1, h => cases h; exact absurd rfl hn
      | i + 2, h =>
        refine List.mem_cons_of_mem _ ?_
        have := flatV_args (A := A) (b := b) vs (i0 + 2) i v h hn
        rw [show i0 + (i + 2) = i0 + 2 + i by omega]
        exact this
    · rw [if_neg hc] at h ⊢
      match i, h with
      | 0, h => cases h; exact List.mem_cons_self
      | i + 1, h =>
        refine List.mem_cons_of_mem _ ?_
        have := flatV_args (A := A) (b := b) vs (i0 + 1) i v h hn
        rw [show i0 + (i + 1) = i0 + 1 + i by omega]
        exact this
theorem entL_args {A : Nat → Nat} {b n : Nat} {vs : List Value} {q : Nat × Value} (hq : q ∈ lvO A b (entL vs n)) : q ∈ lv_args 0 (vs.map (tv A b)) := by
  obtain ⟨v, h1, h2, h3⟩ := mem_lvO.mp hq
  have e : entL vs n = flatV vs ++ List.replicate (n - (flatV vs).length) .null := rfl
  rw [e] at h1
  by_cases hl : q.1 < (flatV vs).length
  · rw [List.getElem?_append_left hl] at h1
    have := flatV_args (A := A) (b := b) vs 0 q.1 v h1 h2
    rw [Nat.zero_add, ← h3] at this
    exact this
  · rw [List.getElem?_append_right (by omega)] at h1
    rw [List.getElem?_replicate] at h1
    split at h1
    · cases h1; exact absurd rfl h2
    · cases h1
theorem sl_len (A : Nat → Nat) (b : Nat) : ∀ vs : List Value, (lg_sl (vs.map (tv A b))).length = wds vs
  | [] => rfl
  | v :: vs => by
    have ih := sl_len A b vs
    unfold lg_sl wds at ih ⊢
    rw [List.map_cons, List.flatMap_cons, List.length_append, ih, List.map_cons, List.sum_cons, tv_cat]
    have hc : v.category = 1 ∨ v.category = 2 := lv_cat v
    rcases hc with e | e <;> rw [e] <;> rfl
/-- a callee's start -/
def SX (L : Nat) (xs : Nat → Int32) (y : MD) (b : Nat) (As : Nat → Prop) (s : State) : Prop := mC y = 8 → va_X b L xs s s.heap ∧ b < s.heap.size ∧ ¬ As b
def PcC (y : MD) (L : Nat) (xs : Nat → Int32) (D : va_G) (ca : Nat → ClassId) (b : Nat) (A : Nat → Nat) (h : AH) (sz : Nat) (vs : List Value) : Array Value → State → Prop := va_Pc (vs.map (tv A b)) (fun U => U.heap.size = sz ∧ va_P D vwCl (wld ca A h) U.heap ∧ va_K D vwCl (tysOf ca) U ∧ va_D (fun _ => True) (wld ca A h) ∧ GP U ∧ ZQ (va_A (wld ca A h) sz) U U.heap ∧ SX L xs y b (va_A (wld ca A h) sz) U)
def BC (D : va_G) (ca : Nat → ClassId) (h' : AH) (As : Nat → Prop) (u : Nat → Nat) (t : State) : Prop := va_P D vwCl (wld ca u h') t.heap ∧ va_D As (wld ca u h')
def QcC (v : Option Value) (n : Nat) (A : Nat → Nat) (B : (Nat → Nat) → State → Prop) (As : Nat → Prop) : Array Value → State → Outcome → State → Prop := match v with
  | some (.int x) => va_Qi (fun (r : Int32) (u : Nat → Nat) => r = x ∧ ∀ i, i < n → u i = A i) B As
  | some (.long x) => va_Ql (fun (r : Int64) (u : Nat → Nat) => r = x ∧ ∀ i, i < n → u i = A i) B As
  | some (.double x) => va_Qd (fun (r : UInt64) (u : Nat → Nat) => r = x ∧ ∀ i, i < n → u i = A i) B As
  | _ => va_Qv (fun (u : Nat → Nat) => ∀ i, i < n → u i = A i) B As
def wsM (y : MD) : List Cond := Cond.code (mN y) (mB y) (mM y) (mR y) :: GW
def wsW (y : MD) : List Cond := Cond.codeWith (mN y) (mB y) (mM y) (mR y) (mH y) :: GW
def rmC (y : MD) (mc ms : Nat) : Room := { frames := mV y, cells := mc, slots := ms, locals := 35 * mV y }
theorem PcC_blind {y : MD} {L : Nat} {xs : Nat → Int32} {D : va_G} {ca : Nat → ClassId} {b : Nat} {A : Nat → Nat} {sz : Nat} : FrameBlind (PcC y L xs D ca b A h sz vs) := by
  rintro a U g mk ⟨q1, q2, q3, q4, q5, q6, q7, q8⟩
  have hv : (U.calling g mk a).vm = U.vm := rfl
  exact ⟨q1, q2, q3, va_K.moved (u := U) (U := U.calling g mk a) (Vm.Alike.refl U.vm) q4, q5, GP.warm (s := U) (U := U.calling g mk a) (State.WarmedH.refl U) q6, ⟨vx_Zq.moved (u := U) (U := U.calling g mk a) (Vm.Alike.refl U.vm) q7.1, vx_Zq.moved (u := U) (U := U.calling g mk a) (Vm.Alike.refl U.vm) q7.2⟩, fun e8 => ⟨va_X.moved (u := U) (U := U.calling g mk a) (Vm.Alike.refl U.vm) (q8 e8).1, (q8 e8).2⟩⟩
theorem wld_free {D : va_G} {ca : Nat → ClassId} {As : Nat → Prop} {A : Nat → Nat} {s : State} {H : Heap} {locs : List Loc} (hD : va_D As (wld ca A h)) (hS : va_S As s.heap H locs) (hA : ∀ q : Nat, s.heap.size ≤ q → As q) : ∀ q, va_A (wld ca A h) H.size q → As q := by
  rintro q (⟨k, e, hk⟩ | hq)
  · exact hD.2 k (q, e) hk
  · exact hA q (Nat.le_trans hS.1 hq)
theorem PcC_at {D : va_G} {ca : Nat → ClassId} {b : Nat} {As : Nat → Prop} {p : Program} {R : Room} {s : State} {mid : MethodId} {args : Array Value} {meth : Method} {c : Code} {A : Nat → Nat} {H : Heap} {locs : List Loc} (hC : Cx l L xs m D ca b As p R s mid args meth c) (hP : va_P D vwCl (wld ca A h) H) (hD : va_D As (wld ca A h)) (hS : va_S As s.heap H locs) (h8c : mC y = 8 → mC m = 8) :
    ∀ U : State, U.heap = H → s.WarmedH U.vm → PcC y L xs D ca b A h H.size vs (vs.map (tv A b)).toArray U := by
  obtain ⟨hx, hb, hr, hml, hown, hts, hlk, hnm9, htab, hRf, hRl, hK9, hG, hZ, hA9, hlaw, hcl9, hst9⟩ := id hC
  intro U hU hW
  have hfr := wld_free (D := D) hD hS hA9
  refine ⟨rfl, by rw [hU], by rw [hU]; exact hP, hK9.moved hW.alike, hD.weaken (fun _ _ _ _ => trivial), hG.warm hW, ⟨?_, ?_⟩, fun e8 => ?_⟩
  · rw [hU]; exact ((hZ.1.kept hS.2.1).moved hW.alike).narrow hfr
  · rw [hU]; exact ((hZ.2.kept hS.2.1).moved hW.alike).narrow hfr
  · obtain ⟨x1, x2, x3⟩ := hlaw (h8c e8)
    rw [hU]
    exact ⟨(x1.kept (hS.2.1 b x2 x3)).moved hW.alike, Nat.lt_of_lt_of_le x2 hS.1, fun z => x3 (hfr b z)⟩
/-- the context of a callee's body -/
theorem Cx_body {D : va_G} {ca : Nat → ClassId} {b : Nat} {A : Nat → Nat} {p : Program} {e : Env} {s s₁ : State} {mid : MethodId} {args : Array Value} {below : List Frame} {meth : Method} {c : Code} {ws : List Cond} {mc ms : Nat} (hl : l.stackTraces = false) (hcl : (mN y).cls = ow (mC y)) 
    (B : BodyLoose p l (mN y) (headSpec ws (rmC y mc ms)) (mB y) (mM y) (mR y) e s mid args below meth c s₁) (hml : c.maxLocals = mM y) (hws : ∀ w ∈ GW, w ∈ ws) (htab : c.exceptionTable.toList = tableOf (mH y)) (hv : PcC y L xs D ca b A h s.heap.size vs args s) :
    Cx l L xs y D ca b (va_A (wld ca A h) s.heap.size) p (rmC y mc ms) s mid args meth c := by
  obtain ⟨-, -, hP, hK9, hD0, hG, hZ, h8x⟩ := hv
  have hts := atoms_spec (ws := ws) B.pre
  exact ⟨B.exec, B.bytes, B.returns, hml, findClass_of_methodNamed B.named, fun w hw => hts w (hws w hw), B.notSynchronized, (name_of_methodNamed B.named B.method).1, htab, rfl, Nat.le_refl _, hK9, hG, hZ, fun q hq => Or.inr hq, h8x, hcl, hl⟩
/-- from the body's start to its end, for any end -/
theorem body_sem {D : va_G} {ca : Nat → ClassId} {b : Nat} {A : Nat → Nat} {p : Program} {e : Env} {s : State} {mid : MethodId} {args : Array Value} {below : List Frame} {meth : Method} {c : Code} {ws : List Cond} {Q : State → Prop} {mc ms : Nat} (hS : Sem l L xs y 0 (entL vs (mM y)) [] h r) (hlen : wds vs ≤ mM y)
    (hC : Cx l L xs y D ca b (va_A (wld ca A h) s.heap.size) p (rmC y mc ms) s mid args meth c) (hmc : hc (rH r) ≤ mc + hc h) (hms : hs (rH r) ≤ ms + hs h) (hv : PcC y L xs D ca b A h s.heap.size vs args s)
    (hE : Kr y D ca (va_A (wld ca A h) s.heap.size) p l e (rmC y mc ms) s mid args below meth c Q (hc h) (hs h) (hn h) A r) :
    W p l e (headSpec ws (rmC y mc ms)).room s mid args below meth c s.heap [] 0 0 Q (entryFrame mid args (mM y)) := by
  obtain ⟨rfl, -, hP, hK9, hD0, hG, hZ, -⟩ := hv
  have hlen' : (lg_sl (vs.map (tv A b))).length ≤ mM y := by rw [sl_len]; exact hlen
  have hl0 := lv_entry (vs.map (tv A b)) (n := mM y) hlen'
  rw [lg_entry_eq]
  exact hS D ca b _ p e (rmC y mc ms) s mid _ below meth c Q (hc h) (hs h) (hn h) A hC hE A s.heap [] 0 0 _ (Nat.le_refl _) (fun _ _ => rfl) ⟨hP, hD0.self, va_S.rf, Nat.zero_add _, Nat.zero_add _⟩ hmc hms (lv_mono hl0 (fun q hq => entL_args hq))
theorem Kr_ret {D : va_G} {ca : Nat → ClassId} {p : Program} {e : Env} {R : Room} {s : State} {mid : MethodId} {args : Array Value} {below : List Frame} {meth : Method} {c : Code} {b : Nat} {As : Nat → Prop} {A : Nat → Nat} {v : Option Value} (hC : Cx l L xs y D ca b As p R s mid args meth c) :
    Kr y D ca As p l e R s mid args below meth c (MQ below (QcC v (hn h) A (BC D ca h' As) As) args s (hc h' - hc h) (hs h' - hs h) As) (hc h) (hs h) (hn h) A (.inl (v, h')) := by
  obtain ⟨hx, hb, hr, hml, hown, hts, hlk, hnm9, htab, hRf, hRl, hK9, hG, hZ, hA9, hlaw, hcl9, hst9⟩ := id hC
  refine ⟨?_, fun A' H locs cells slots pc ls E h1 he => by cases he⟩
  intro A' H locs cells slots pc ls v' h1 he hag hpos hret
  cases he
  obtain ⟨hP, hD, hS, h4, h5⟩ := hpos
  have e4 : hc h' - hc h = cells := by omega
  have e5 : hs h' - hs h = slots := by omega
  rw [e4, e5]
  cases v with
  | none =>
    obtain ⟨hd, hrr⟩ := hret
    exact W.vret hx hb (hr.trans hrr) (fun t ht hW => ⟨⟨A', rfl, hag, by rw [ht]; exact hP, hD⟩, hS.F ht⟩) hS.2.2 hd hlk
  | some w =>
    cases w with
    | int x =>
      obtain ⟨hd, hrr | ⟨hrr, hx01⟩⟩ := hret
      · exact W.iret hx hb (hr.trans hrr) (fun t ht hW => ⟨⟨x, A', rfl, ⟨rfl, hag⟩, by rw [ht]; exact hP, hD⟩, hS.F ht⟩) hS.2.2 hd hlk
      · refine W.zret hx hb (hr.trans hrr) (by rcases hx01 with e | e <;> subst e <;> decide) (fun t ht hW => ⟨⟨x, A', rfl, ⟨rfl, hag⟩, by rw [ht]; exact hP, hD⟩, hS.F ht⟩) hS.2.2 hd hlk
    | long x =>
      obtain ⟨hd, hrr⟩ := hret
      exact W.lret hx hb (hr.trans hrr) (fun t ht hW => ⟨⟨x, A', rfl, ⟨rfl, hag⟩, by rw [ht]; exact hP, hD⟩, hS.F ht⟩) hS.2.2 hd hlk
    | double x =>
      obtain ⟨hd, hrr⟩ := hret
      exact W.dret hx hb (hr.trans hrr) (fun t ht hW => ⟨⟨x, A', rfl, ⟨rfl, hag⟩, by rw [ht]; exact hP, hD⟩, hS.F ht⟩) hS.2.2 hd hlk
    | _ => exact hret.elim
/-- a method that returns: its contract -/
theorem met_ret {D : va_G} {ca : Nat → ClassId} {b : Nat} {A : Nat → Nat} {sz : Nat} {v : Option Value} (hl : l.stackTraces = false) (hS : Sem l L xs y 0 (entL vs (mM y)) [] h (.inl (v, h'))) (hlen : wds vs ≤ mM y) (hpl : plainName (mN y).cls = true) (hcl : (mN y).cls = ow (mC y))  (hno : mH y = []) :
    Met l (mN y) (wsM y) (rmC y (hc h' - hc h) (hs h' - hs h)) (PcC y L xs D ca b A h sz vs) (QcC v (hn h) A (BC D ca h' (va_A (wld ca A h) sz)) (va_A (wld ca A h) sz)) (hc h' - hc h) (hs h' - hs h) (va_A (wld ca A h) sz) := by
  refine Met.ofW (cc := mB y) (maxL := mM y) (ret := mR y) hpl rfl ?_
  intro p e s mid args below meth c s₁ B hml hv
  have hsz := hv.2.1
  subst hsz
  have htab : c.exceptionTable.toList = tableOf (mH y) := by
    rw [hno]
    obtain ⟨meth9, c9, z1, z2, -, -, -, -, z7, -⟩ := Cond.code_spec B.named (atoms_spec (ws := wsM y) B.pre _ List.mem_cons_self)
    cases Option.some.inj (z1.symm.trans B.method)
    cases Option.some.inj (z2.symm.trans (Stand.of_body B).code)
    rw [Array.isEmpty_iff.mp z7]
    rfl
  have hC := Cx_body (L := L) (xs := xs) hl hcl B hml (fun w hw => List.mem_cons_of_mem _ hw) htab hv
  exact body_sem (ws := wsM y) hS hlen hC (by show hc h' ≤ _; omega) (by show hs h' ≤ _; omega) hv (Kr_ret hC)
/-- .. with a table of its own -/
theorem met_retW {D : va_G} {ca : Nat → ClassId} {b : Nat} {A : Nat → Nat} {sz : Nat} {v : Option Value} (hl : l.stackTraces = false) (hS : Sem l L xs y 0 (entL vs (mM y)) [] h (.inl (v, h'))) (hlen : wds vs ≤ mM y) (hpl : plainName (mN y).cls = true) (hcl : (mN y).cls = ow (mC y))  :
    Met l (mN y) (wsW y) (rmC y (hc h' - hc h) (hs h' - hs h)) (PcC y L xs D ca b A h sz vs) (QcC v (hn h) A (BC D ca h' (va_A (wld ca A h) sz)) (va_A (wld ca A h) sz)) (hc h' - hc h) (hs h' - hs h) (va_A (wld ca A h) sz) := by
  refine va_MetW (cc := mB y) (maxL := mM y) (ret := mR y) (hh := mH y) hpl rfl ?_
  intro p e s mid args below meth c s₁ B hml hv
  have hsz := hv.2.1
  subst hsz
  have htab : c.exceptionTable.toList = tableOf (mH y) := vx_table (y := mN y) (x := mN y) B (atoms_spec (ws := wsW y) B.pre _ List.mem_cons_self)
  have hC := Cx_body (L := L) (xs := xs) hl hcl B hml (fun w hw => List.mem_cons_of_mem _ hw) htab hv
  exact body_sem (ws := wsW y) hS hlen hC (by show hc h' ≤ _; omega) (by show hs h' ≤ _; omega) hv (Kr_ret hC)
end
end
section
/-! A STEP KEEPS WHAT IS WELL-FORMED -/
section
variable {L : Nat} {xs : Nat → Int32} {m : MD} {pc : Nat} {Ls st : List Value} {h : AH} {r : Res}
def vOK (v : Option Value) : Prop := v = none ∨ (∃ x, v = some (.int x)) ∨ (∃ x, v = some (.long x)) ∨ ∃ x, v = some (.double x)
def OKA (h : AH) (a : Act) : Prop := match a with
  | .inl q => WFl (hn q.2.2.2) q.2.1 ∧ WFl (hn q.2.2.2) q.2.2.1 ∧ WFh q.2.2.2 ∧ hn h ≤ hn q.2.2.2 ∧ hc h ≤ hc q.2.2.2 ∧ hs h ≤ hs q.2.2.2
  | .inr (.inl q) => vOK q.1 ∧ q.2 = h
  | .inr (.inr (.inl q)) => WFl (hn h) q.2.1 ∧ WFl (hn h) q.2.2
  | .inr (.inr (.inr q)) => q.2 = bump h
theorem WFl_nil {n : Nat} : WFl n [] := fun _ h => absurd h List.not_mem_nil
theorem WFl_cons {n : Nat} {v : Value} {l : List Value} : WFl n (v :: l) ↔ (∀ i, v = .ref i → i < n) ∧ WFl n l := by
  constructor
  · intro h
    exact ⟨fun i e => h i (by rw [e]; exact List.mem_cons_self), fun i hi => h i (List.mem_cons_of_mem _ hi)⟩
  · rintro ⟨h1, h2⟩ i hi
    rcases List.mem_cons.mp hi with e | e
    · exact h1 i e.symm
    · exact h2 i e
theorem WFl_app {n : Nat} {l k : List Value} (h1 : WFl n l) (h2 : WFl n k) : WFl n (l ++ k) := fun i hi => (List.mem_append.mp hi).elim (h1 i) (h2 i)
theorem WFl_set {n k : Nat} {v : Value} {l : List Value} (h : WFl n l) (hv : ∀ i, v = .ref i → i < n) : WFl n (l.set k v) := fun i hi => by
  rcases List.mem_or_eq_of_mem_set hi with e | e
  · exact h i e
  · exact hv i e.symm
theorem WFl_le {n k : Nat} {l : List Value} (h : WFl n l) (hk : n ≤ k) : WFl k l := fun i hi => Nat.lt_of_lt_of_le (h i hi) hk
theorem WFl_get {n k : Nat} {v : Value} {l : List Value} (h : WFl n l) (hv : l[k]? = some v) : ∀ i, v = .ref i → i < n := fun i e => h i (e ▸ List.mem_of_getElem? hv)
theorem WFl_take {n k : Nat} {l : List Value} (h : WFl n l) : WFl n (l.take k) := fun i hi => h i (List.mem_of_mem_take hi)
theorem WFl_drop {n k : Nat} {l : List Value} (h : WFl n l) : WFl n (l.drop k) := fun i hi => h i (List.mem_of_mem_drop hi)
theorem WFl_rev {n : Nat} {l : List Value} (h : WFl n l) : WFl n l.reverse := fun i hi => h i (List.mem_reverse.mp hi)
theorem WFl_entL {n k : Nat} {l : List Value} (h : WFl n l) : WFl n (entL l k) := by
  intro i hi
  rcases List.mem_append.mp hi with e | e
  · obtain ⟨v, hv, e⟩ := List.mem_flatMap.mp e
    split at e
    · rcases List.mem_cons.mp e with e | e
      · exact h i (e ▸ hv)
      · rcases List.mem_cons.mp e with e | e
        · cases e
        · cases e
    · rcases List.mem_cons.mp e with e | e
      · exact h i (e ▸ hv)
      · cases e
  · have := List.eq_of_mem_replicate e
    cases this
theorem OKA_go {pc' : Nat} {Ls' st' : List Value} {a : Act} (h1 : WFl (hn h) Ls') (h2 : WFl (hn h) st') (hw : WFh h) (e : actGo pc' Ls' st' h = some a) : OKA h a := by
  cases e
  exact ⟨h1, h2, hw, Nat.le_refl _, Nat.le_refl _, Nat.le_refl _⟩
theorem OKA_heap {pc' : Nat} {Ls' st' : List Value} {h' : AH} {a : Act} (e : actGo pc' Ls' st' h' = some a) (h1 : WFl (hn h) Ls') (h2 : WFl (hn h) st') (hw : WFh h') (e1 : hn h' = hn h) (e2 : hc h' = hc h) (e3 : hs h' = hs h) : OKA h a := by
  cases e
  exact ⟨by show WFl (hn h') _; rw [e1]; exact h1, by show WFl (hn h') _; rw [e1]; exact h2, hw, Nat.le_of_eq e1.symm, Nat.le_of_eq e2.symm, Nat.le_of_eq e3.symm⟩
theorem OKA_make {pc' k len sl : Nat} {st' : List Value} {a : Act} (h1 : WFl (hn h) Ls) (h2 : WFl (hn h) st') (hw : WFh h) (e : actGo pc' Ls (.ref (hn h) :: st') (nw h k len sl) = some a) : OKA h a := by
  cases e
  have en : hn (nw h k len sl) = hn h + 1 := rfl
  refine ⟨by show WFl (hn h + 1) _; exact WFl_le h1 (by omega), ?_, ⟨fun F i j hj => ?_, fun b k9 j hj => ?_⟩, by show hn h ≤ hn h + 1; omega, by show hc h ≤ hc h + 1; omega, by show hs h ≤ hs h + sl; omega⟩
  · show WFl (hn h + 1) _
    exact WFl_cons.mpr ⟨fun i e => by cases e; exact Nat.lt_succ_self _, WFl_le h2 (by omega)⟩
  · have hj' : (if i = hn h then none else hR h F i) = some j := hj
    show j < hn h + 1
    split at hj'
    · cases hj'
    · have := hw.1 F i j hj'; omega
  · have hj' : (if b = hn h then none else hQ h b k9) = some j := hj
    show j < hn h + 1
    split at hj'
    · cases hj'
    · have := hw.2 b k9 j hj'; omega
variable (hL9 : WFl (hn h) Ls) (hS9 : WFl (hn h) st) (hw : WFh h)
theorem ni {n : Nat} {x : Int32} : ∀ i, Value.int x = .ref i → i < n := fun _ e => nomatch e
theorem nl {n : Nat} {x : Int64} : ∀ i, Value.long x = .ref i → i < n := fun _ e => nomatch e
theorem nd {n : Nat} {x : UInt64} : ∀ i, Value.double x = .ref i → i < n := fun _ e => nomatch e
theorem nn {n : Nat} : ∀ i, Value.null = .ref i → i < n := fun _ e => nomatch e
theorem ns {n a : Nat} : ∀ i, Value.retAddr a = .ref i → i < n := fun _ e => nomatch e
end
section
variable {L : Nat} {xs : Nat → Int32} {m : MD} {pc : Nat} {Ls st : List Value} {h : AH} {r : Res} {a : Act}
theorem ok_op2 {f : Int32 → Int32 → Int32} (h1 : WFl (hn h) Ls) (h2 : WFl (hn h) st) (hw : WFh h) (e : op2 f pc Ls st h = some a) : OKA h a := by
  unfold op2 at e
  split at e
  · rw [WFl_cons, WFl_cons] at h2
    exact OKA_go h1 (WFl_cons.mpr ⟨ni, h2.2.2⟩) hw e
  · cases e
theorem ok_opL {f : Int64 → Int64 → Int64} (h1 : WFl (hn h) Ls) (h2 : WFl (hn h) st) (hw : WFh h) (e : opL f pc Ls st h = some a) : OKA h a := by
  unfold opL at e
  split at e
  · rw [WFl_cons, WFl_cons] at h2
    exact OKA_go h1 (WFl_cons.mpr ⟨nl, h2.2.2⟩) hw e
  · cases e
theorem ok_ldI {k d : Nat} (h1 : WFl (hn h) Ls) (h2 : WFl (hn h) st) (hw : WFh h) (e : ldI k d pc Ls st h = some a) : OKA h a := by
  unfold ldI at e
  split at e
  · exact OKA_go h1 (WFl_cons.mpr ⟨ni, h2⟩) hw e
  · cases e
theorem ok_ldL {k d : Nat} (h1 : WFl (hn h) Ls) (h2 : WFl (hn h) st) (hw : WFh h) (e : ldL k d pc Ls st h = some a) : OKA h a := by
  unfold ldL at e
  split at e
  · exact OKA_go h1 (WFl_cons.mpr ⟨nl, h2⟩) hw e
  · cases e
theorem ok_ldD {k d : Nat} (h1 : WFl (hn h) Ls) (h2 : WFl (hn h) st) (hw : WFh h) (e : ldD k d pc Ls st h = some a) : OKA h a := by
  unfold ldD at e
  split at e
  · exact OKA_go h1 (WFl_cons.mpr ⟨nd, h2⟩) hw e
  · cases e
theorem ok_ldA {k d : Nat} (h1 : WFl (hn h) Ls) (h2 : WFl (hn h) st) (hw : WFh h) (e : ldA k d pc Ls st h = some a) : OKA h a := by
  unfold ldA at e
  split at e
  · rename_i hv
    exact OKA_go h1 (WFl_cons.mpr ⟨WFl_get h1 hv, h2⟩) hw e
  · exact OKA_go h1 (WFl_cons.mpr ⟨ns, h2⟩) hw e
  · cases e
theorem ok_stI {n k d : Nat} (h1 : WFl (hn h) Ls) (h2 : WFl (hn h) st) (hw : WFh h) (e : stI n k d pc Ls st h = some a) : OKA h a := by
  unfold stI at e
  split at e
  · split at e
    · rw [WFl_cons] at h2
      exact OKA_go (WFl_set h1 ni) h2.2 hw e
    · cases e
  · cases e
theorem ok_stA {n k d : Nat} (h1 : WFl (hn h) Ls) (h2 : WFl (hn h) st) (hw : WFh h) (e : stA n k d pc Ls st h = some a) : OKA h a := by
  unfold stA at e
  split at e
  · split at e
    · rw [WFl_cons] at h2
      exact OKA_go (WFl_set h1 h2.1) h2.2 hw e
    · cases e
  · cases e
theorem ok_stL {n k d : Nat} (h1 : WFl (hn h) Ls) (h2 : WFl (hn h) st) (hw : WFh h) (e : stL n k d pc Ls st h = some a) : OKA h a := by
  unfold stL at e
  split at e
  · split at e
    · rw [WFl_cons] at h2
      exact OKA_go (WFl_set (WFl_set h1 nl) nn) h2.2 hw e
    · cases e
  · cases e
theorem ok_stD {n k d : Nat} (h1 : WFl (hn h) Ls) (h2 : WFl (hn h) st) (hw : WFh h) (e : stD n k d pc Ls st h = some a) : OKA h a := by
  unfold stD at e
  split at e
  · split at e
    · rw [WFl_cons] at h2
      exact OKA_go (WFl_set (WFl_set h1 nd) nn) h2.2 hw e
    · cases e
  · cases e
theorem ok_getF {c i : Nat} (h1 : WFl (hn h) Ls) (h2 : WFl (hn h) st) (hw : WFh h) (e : getF c i pc Ls st h = some a) : OKA h a := by
  unfold getF at e
  split at e
  · rw [WFl_cons] at h2
    split at e
    · split at e
      · split at e
        · rename_i hj
          exact OKA_go h1 (WFl_cons.mpr ⟨fun i9 e9 => by cases e9; exact hw.1 _ _ _ hj, h2.2⟩) hw e
        · cases e
      · exact OKA_go h1 (WFl_cons.mpr ⟨ni, h2.2⟩) hw e
    · cases e
  · cases e
theorem ok_putF {i : Nat} (h1 : WFl (hn h) Ls) (h2 : WFl (hn h) st) (hw : WFh h) (e : putF m i pc Ls st h = some a) : OKA h a := by
  unfold putF at e
  split at e
  · rw [WFl_cons, WFl_cons] at h2
    split at e
    · exact OKA_heap (h := h) e h1 h2.2.2 ⟨hw.1, hw.2⟩ rfl rfl rfl
    · cases e
  · rename_i v a0 s k f _
    rw [WFl_cons, WFl_cons] at h2
    split at e
    · refine OKA_heap (h := h) e h1 h2.2.2 ⟨fun F i9 j hj => ?_, hw.2⟩ rfl rfl rfl
      have hj' : (if F = 16 * k + f ∧ i9 = a0 then some v else hR h F i9) = some j := hj
      show j < hn h
      split at hj'
      · cases hj'; exact h2.1 _ rfl
      · exact hw.1 _ _ _ hj'
    · cases e
  · cases e
theorem ok_iald {lw : Bool} (h1 : WFl (hn h) Ls) (h2 : WFl (hn h) st) (hw : WFh h) (e : iald L xs lw pc Ls st h = some a) : OKA h a := by
  unfold iald at e
  split at e
  · rw [WFl_cons, WFl_cons] at h2
    split at e
    · exact OKA_go h1 (WFl_cons.mpr ⟨ni, h2.2.2⟩) hw e
    · cases e
  · rw [WFl_cons, WFl_cons] at h2
    split at e
    · exact OKA_go h1 (WFl_cons.mpr ⟨ni, h2.2.2⟩) hw e
    · cases e
  · cases e
theorem ok_alen {lw : Bool} (h1 : WFl (hn h) Ls) (h2 : WFl (hn h) st) (hw : WFh h) (e : alen L lw pc Ls st h = some a) : OKA h a := by
  unfold alen at e
  split at e
  · rw [WFl_cons] at h2
    split at e
    · exact OKA_go h1 (WFl_cons.mpr ⟨ni, h2.2⟩) hw e
    · cases e
  · rw [WFl_cons] at h2
    split at e
    · exact OKA_go h1 (WFl_cons.mpr ⟨ni, h2.2⟩) hw e
    · cases e
  · cases e
theorem ok_iast (h1 : WFl (hn h) Ls) (h2 : WFl (hn h) st) (hw : WFh h) (e : iast pc Ls st h = some a) : OKA h a := by
  unfold iast at e
  split at e
  · rw [WFl_cons, WFl_cons, WFl_cons] at h2
    split at e
    · exact OKA_heap (h := h) e h1 h2.2.2.2 ⟨hw.1, hw.2⟩ rfl rfl rfl
    · cases e
  · cases e
theorem ok_lald (h1 : WFl (hn h) Ls) (h2 : WFl (hn h) st) (hw : WFh h) (e : lald pc Ls st h = some a) : OKA h a := by
  unfold lald at e
  split at e
  · rw [WFl_cons, WFl_cons] at h2
    split at e
    · exact OKA_go h1 (WFl_cons.mpr ⟨nl, h2.2.2⟩) hw e
    · cases e
  · cases e
theorem ok_last (h1 : WFl (hn h) Ls) (h2 : WFl (hn h) st) (hw : WFh h) (e : last pc Ls st h = some a) : OKA h a := by
  unfold last at e
  split at e
  · rw [WFl_cons, WFl_cons, WFl_cons] at h2
    split at e
    · exact OKA_heap (h := h) e h1 h2.2.2.2 ⟨hw.1, hw.2⟩ rfl rfl rfl
    · cases e
  · cases e
theorem ok_aald (h1 : WFl (hn h) Ls) (h2 : WFl (hn h) st) (hw : WFh h) (e : aald pc Ls st h = some a) : OKA h a := by
  unfold aald at e
  split at e
  · rw [WFl_cons, WFl_cons] at h2
    split at e
    · split at e
      · rename_i hj
        exact OKA_go h1 (WFl_cons.mpr ⟨fun i9 e9 => by cases e9; exact hw.2 _ _ _ hj, h2.2.2⟩) hw e
      · cases e
    · cases e
  · cases e
theorem ok_aast (h1 : WFl (hn h) Ls) (h2 : WFl (hn h) st) (hw : WFh h) (e : aast pc Ls st h = some a) : OKA h a := by
  unfold aast at e
  split at e
  · rename_i v i a0 s
    rw [WFl_cons, WFl_cons, WFl_cons] at h2
    split at e
    · refine OKA_heap (h := h) e h1 h2.2.2.2 ⟨hw.1, fun b k9 j hj => ?_⟩ rfl rfl rfl
      have hj' : (if b = a0 ∧ k9 = i.toNatClampNeg then some v else hQ h b k9) = some j := hj
      show j < hn h
      split at hj'
      · cases hj'; exact h2.1 _ rfl
      · exact hw.2 _ _ _ hj'
    · cases e
  · cases e
theorem ok_newO {i : Nat} (h1 : WFl (hn h) Ls) (h2 : WFl (hn h) st) (hw : WFh h) (e : newO m i pc Ls st h = some a) : OKA h a := by
  unfold newO at e
  split at e
  · exact OKA_make h1 h2 hw e
  · split at e
    · split at e
      · split at e
        · split at e
          · cases e; rfl
          · cases e
        · cases e
      · cases e
    · split at e
      · split at e
        · split at e
          · cases e; rfl
          · cases e
        · cases e
      · cases e
    · cases e
theorem ok_newA {t : ArrayType} (h1 : WFl (hn h) Ls) (h2 : WFl (hn h) st) (hw : WFh h) (e : newA t pc Ls st h = some a) : OKA h a := by
  unfold newA at e
  split at e
  · rw [WFl_cons] at h2
    split at e
    · exact OKA_make h1 h2.2 hw e
    · cases e
  · rw [WFl_cons] at h2
    split at e
    · exact OKA_make h1 h2.2 hw e
    · cases e
  · cases e
theorem ok_newQ {i : Nat} (h1 : WFl (hn h) Ls) (h2 : WFl (hn h) st) (hw : WFh h) (e : newQ m i pc Ls st h = some a) : OKA h a := by
  unfold newQ at e
  split at e
  · rw [WFl_cons] at h2
    split at e
    · exact OKA_make h1 h2.2 hw e
    · cases e
  · cases e
theorem ok_clS {y : MD} {mode n : Nat} (h2 : WFl (hn h) st) (e : clS m y mode n st h = some a) : OKA h a := by
  unfold clS at e
  split at e
  · split at e
    · cases e
      exact ⟨WFl_rev (WFl_take h2), WFl_drop h2⟩
    · cases e
  · cases e
theorem ok_clV {y : MD} {n : Nat} (h2 : WFl (hn h) st) (e : clV m y n st h = some a) : OKA h a := by
  unfold clV at e
  split at e
  · rename_i hd
    have h3 := WFl_drop (k := n) h2
    rw [hd, WFl_cons] at h3
    split at e
    · cases e
      exact ⟨WFl_cons.mpr ⟨h3.1, WFl_rev (WFl_take h2)⟩, h3.2⟩
    · cases e
  · cases e
theorem ok_copy (h1 : WFl (hn h) Ls) (h2 : WFl (hn h) st) (hw : WFh h) (e : copy5 m pc Ls st h = some a) : OKA h a := by
  unfold copy5 at e
  split at e
  · rw [WFl_cons, WFl_cons, WFl_cons, WFl_cons, WFl_cons] at h2
    split at e
    · exact OKA_heap (h := h) e h1 h2.2.2.2.2.2 ⟨hw.1, hw.2⟩ rfl rfl rfl
    · cases e
  · cases e
theorem ok_min (h1 : WFl (hn h) Ls) (h2 : WFl (hn h) st) (hw : WFh h) (e : min9 m pc Ls st h = some a) : OKA h a := by
  unfold min9 at e
  split at e
  · rw [WFl_cons, WFl_cons] at h2
    split at e
    · exact OKA_go h1 (WFl_cons.mpr ⟨ni, h2.2.2⟩) hw e
    · cases e
  · cases e
theorem ok_invS {i : Nat} (h1 : WFl (hn h) Ls) (h2 : WFl (hn h) st) (hw : WFh h) (e : invS m i pc Ls st h = some a) : OKA h a := by
  unfold invS at e
  split at e
  · split at e
    · exact ok_copy h1 h2 hw e
    · split at e
      · exact ok_min h1 h2 hw e
      · exact ok_clS h2 e
  · cases e
theorem ok_invV {i : Nat} (h2 : WFl (hn h) st) (e : invV m i st h = some a) : OKA h a := by
  unfold invV at e
  split at e
  · split at e
    · exact ok_clV h2 e
    · cases e
  · cases e
theorem ok_invI {i : Nat} (h1 : WFl (hn h) Ls) (h2 : WFl (hn h) st) (hw : WFh h) (e : invI m i pc Ls st h = some a) : OKA h a := by
  unfold invI at e
  split at e
  · split at e
    · split at e
      · rw [WFl_cons] at h2
        split at e
        · exact OKA_go h1 h2.2 hw e
        · cases e
      · cases e
    · split at e
      · exact ok_clV h2 e
      · cases e
  · cases e
theorem ok_retI (e : retI m st h = some a) : OKA h a := by
  unfold retI at e
  split at e
  · split at e
    · cases e
      exact ⟨Or.inr (Or.inl ⟨_, rfl⟩), rfl⟩
    · cases e
  · cases e
set_option maxHeartbeats 4000000 in
theorem stepI_ok {i : Instr} {len : Nat} (h1 : WFl (hn h) Ls) (h2 : WFl (hn h) st) (hw : WFh h) (e : stepI L xs m pc Ls st h i len = some a) : OKA h a := by
  unfold stepI at e
  split at e <;> first
    | exact ok_ldI h1 h2 hw e
    | exact ok_ldA h1 h2 hw e
    | exact ok_ldL h1 h2 hw e
    | exact ok_ldD h1 h2 hw e
    | exact ok_stI h1 h2 hw e
    | exact ok_stA h1 h2 hw e
    | exact ok_stL h1 h2 hw e
    | exact ok_stD h1 h2 hw e
    | exact ok_getF h1 h2 hw e
    | exact ok_putF h1 h2 hw e
    | exact ok_iald h1 h2 hw e
    | exact ok_iast h1 h2 hw e
    | exact ok_lald h1 h2 hw e
    | exact ok_last h1 h2 hw e
    | exact ok_aald h1 h2 hw e
    | exact ok_aast h1 h2 hw e
    | exact ok_alen h1 h2 hw e
    | exact ok_op2 h1 h2 hw e
    | exact ok_opL h1 h2 hw e
    | exact ok_newO h1 h2 hw e
    | exact ok_newA h1 h2 hw e
    | exact ok_newQ h1 h2 hw e
    | exact ok_invS h1 h2 hw e
    | exact ok_invV h2 e
    | exact ok_invI h1 h2 hw e
    | exact ok_retI e
    | exact OKA_go h1 (WFl_cons.mpr ⟨ni, h2⟩) hw e
    | exact OKA_go h1 h2 hw e
    | (cases e; done)
    | (split at e <;> first
        | exact OKA_go h1 (WFl_cons.mpr ⟨ni, h2⟩) hw e
        | exact OKA_go h1 (WFl_cons.mpr ⟨nl, h2⟩) hw e
        | exact OKA_go h1 (WFl_cons.mpr ⟨nd, h2⟩) hw e
        | exact OKA_go h1 h2 hw e
        | (cases e; done)
        | (rw [WFl_cons] at h2; exact OKA_go h1 (WFl_cons.mpr ⟨ni, h2.2⟩) hw e)
        | (rw [WFl_cons] at h2; exact OKA_go h1 (WFl_cons.mpr ⟨nl, h2.2⟩) hw e)
        | (rw [WFl_cons] at h2; exact OKA_go h1 (WFl_cons.mpr ⟨nd, h2.2⟩) hw e)
        | (rw [WFl_cons, WFl_cons] at h2; exact OKA_go h1 (WFl_cons.mpr ⟨ni, h2.2.2⟩) hw e)
        | (cases e; exact ⟨Or.inl rfl, rfl⟩)
        | (split at e <;> first
            | (cases e; done)
            | (rw [WFl_cons, WFl_cons] at h2; exact OKA_go h1 (WFl_cons.mpr ⟨ni, h2.2.2⟩) hw e)
            | (rw [WFl_cons, WFl_cons] at h2; exact OKA_go h1 (WFl_cons.mpr ⟨nd, h2.2.2⟩) hw e)
            | (rw [WFl_cons, WFl_cons] at h2; exact OKA_go h1 h2.2.2 hw e)
            | (rw [WFl_cons] at h2; exact OKA_go h1 (WFl_cons.mpr ⟨h2.1, WFl_cons.mpr ⟨h2.1, h2.2⟩⟩) hw e)
            | (rw [WFl_cons, WFl_cons] at h2; exact OKA_go h1 (WFl_cons.mpr ⟨h2.1, WFl_cons.mpr ⟨h2.2.1, WFl_cons.mpr ⟨h2.1, WFl_cons.mpr ⟨h2.2.1, h2.2.2⟩⟩⟩⟩) hw e)
            | (rw [WFl_cons] at h2; exact OKA_go h1 h2.2 hw e)
            | exact OKA_go (WFl_set h1 ni) h2 hw e
            | (cases e; exact ⟨Or.inr (Or.inr (Or.inl ⟨_, rfl⟩)), rfl⟩)
            | (cases e; exact ⟨Or.inr (Or.inr (Or.inr ⟨_, rfl⟩)), rfl⟩)
            | (split at e <;> first
              | (cases e; done)
              | (rw [WFl_cons] at h2; exact OKA_go h1 h2.2 hw e))))
theorem stp_ok (h1 : WFl (hn h) Ls) (h2 : WFl (hn h) st) (hw : WFh h) (e : stp L xs m pc Ls st h = some a) : OKA h a := by
  unfold stp at e
  split at e
  · exact stepI_ok h1 h2 hw e
  · cases e
theorem hstep_of {E : String} {q : Nat × List Value} (e : hstep m pc Ls E = some q) : isV m pc = true ∧ hstep0 m pc Ls E = some q := by
  unfold hstep at e
  split at e
  · rename_i hv; exact ⟨hv, e⟩
  · cases e
theorem hstep_ok {E : String} {q : Nat × List Value} {n : Nat} (h1 : WFl n Ls) (e : hstep m pc Ls E = some q) : WFl n q.2 := by
  replace e := (hstep_of e).2
  unfold hstep0 at e
  split at e
  · cases e
  · split at e
    · split at e
      · split at e
        · cases e; exact WFl_set h1 nn
        · cases e
      · split at e
        · cases e; exact WFl_set h1 nn
        · cases e
      · cases e
    · cases e
def RunOK (h : AH) (r : Res) : Prop := WFh (rH r) ∧ hn h ≤ hn (rH r) ∧ hc h ≤ hc (rH r) ∧ hs h ≤ hs (rH r) ∧ (∀ q, r = .inl q → vOK q.1) ∧ ∀ q, r = .inr q → ∃ h1, q.2 = bump h1
theorem vOK_wf {v : Option Value} (hv : vOK v) {n : Nat} : WFl n v.toList := by
  rcases hv with e | ⟨x, e⟩ | ⟨x, e⟩ | ⟨x, e⟩ <;> subst e
  · exact WFl_nil
  · exact WFl_cons.mpr ⟨ni, WFl_nil⟩
  · exact WFl_cons.mpr ⟨nl, WFl_nil⟩
  · exact WFl_cons.mpr ⟨nd, WFl_nil⟩
theorem run_ok : ∀ (n : Nat) (m : MD) (pc : Nat) (Ls st : List Value) (h : AH) (r : Res), WFl (hn h) Ls → WFl (hn h) st → WFh h → run L xs n m pc Ls st h = some r → RunOK h r
  | 0, _, _, _, _, _, _, _, _, _, e => by cases e
  | n + 1, m, pc, Ls, st, h, r, h1, h2, hw, e => by
    unfold run at e
    cases hs9 : stp L xs m pc Ls st h with
    | none => rw [hs9] at e; cases e
    | some a =>
      rw [hs9] at e
      have ho := stp_ok h1 h2 hw hs9
      rcases a with q | q | q | q
      · obtain ⟨o1, o2, o3, o4, o5, o6⟩ := ho
        obtain ⟨p1, p2, p3, p4, p5, p6⟩ := run_ok n _ _ _ _ _ _ o1 o2 o3 e
        exact ⟨p1, Nat.le_trans o4 p2, Nat.le_trans o5 p3, Nat.le_trans o6 p4, p5, p6⟩
      · cases e
        obtain ⟨o1, o2⟩ := ho
        have e2 : rH (.inl q) = h := o2
        refine ⟨by rw [e2]; exact hw, by rw [e2]; exact Nat.le_refl _, by rw [e2]; exact Nat.le_refl _, by rw [e2]; exact Nat.le_refl _, fun q' e9 => by cases e9; exact o1, fun q' e9 => by cases e9⟩
      · obtain ⟨o1, o2⟩ := ho
        replace e : kont (run L xs n q.1 0 (entL q.2.1 (mM q.1)) [] h) (fun v h' => run L xs n m (pc + 3) Ls (v.toList ++ q.2.2) h') (fun E h' => kx (hstep m pc Ls E) (fun pc' Ls' => run L xs n m pc' Ls' [] h')) = some r := e
        cases hr1 : run L xs n q.1 0 (entL q.2.1 (mM q.1)) [] h with
        | none => rw [hr1] at e; cases e
        | some w =>
          rw [hr1] at e
          obtain ⟨p1, p2, p3, p4, p5, p6⟩ := run_ok n _ _ _ _ _ _ (WFl_entL o1) WFl_nil hw hr1
          rcases w with ⟨v, g⟩ | ⟨E, g⟩
          · obtain ⟨s1, s2, s3, s4, s5, s6⟩ := run_ok n _ _ _ _ _ _ (WFl_le h1 p2) (WFl_app (vOK_wf (p5 _ rfl)) (WFl_le o2 p2)) p1 e
            exact ⟨s1, Nat.le_trans p2 s2, Nat.le_trans p3 s3, Nat.le_trans p4 s4, s5, s6⟩
          · cases hh : hstep m pc Ls E with
            | none => simp only [kont, hh, kx] at e; cases e
            | some z =>
              simp only [kont, hh, kx] at e
              obtain ⟨s1, s2, s3, s4, s5, s6⟩ := run_ok n _ _ _ _ _ _ (WFl_le (hstep_ok h1 hh) p2) WFl_nil p1 e
              exact ⟨s1, Nat.le_trans p2 s2, Nat.le_trans p3 s3, Nat.le_trans p4 s4, s5, s6⟩
      · cases e
        have e2 : rH (.inr q) = bump h := ho
        refine ⟨by rw [e2]; exact ⟨hw.1, hw.2⟩, by rw [e2]; exact Nat.le_refl _, by rw [e2]; exact Nat.le_succ _, by rw [e2]; exact Nat.le_add_right _ _, fun q' e9 => (by cases e9), fun q' e9 => (by cases e9; exact ⟨h, ho⟩)⟩
end
end
section
/-! THE ROWS OF CALLS -/
section
variable {l : Launch} {L : Nat} {xs : Nat → Int32} {m y : MD} {pc i n : Nat} {Ls st vs rest : List Value} {h h' : AH} {r : Res}
theorem mRes_ok {c : Nat} {mode : Nat} (h : mRes c i = some (y, mode, n)) : ∃ ps, okM (c, i, y, mode, n, ps) = true := by
  unfold mRes at h
  obtain ⟨q, hq, he⟩ := Option.map_eq_some_iff.mp h
  have hp := List.find?_some hq
  rw [Bool.and_eq_true, beq_iff_eq, beq_iff_eq] at hp
  have ho := mRT_ok q (List.mem_of_find?_eq_some hq)
  obtain ⟨q1, q2, q3, q4, q5, q6⟩ := q
  cases he
  obtain ⟨rfl, rfl⟩ := hp
  exact ⟨q6, ho⟩
def Com (c : Nat) (y : MD) (n : Nat) : Prop := (mM y ≤ 16 ∧ (mC y = 8 → c = 8)) ∧ (mN y).cls = ow (mC y) ∧ plainName (mN y).cls = true ∧ ((mN y).cls ≠ "java/lang/invoke/MethodHandle" ∧ (mN y).cls ≠ "java/lang/invoke/VarHandle" ∧ (parseMethodDescriptor (mN y).desc).map (fun d => d.parameters.length) = some n)
theorem mres0 {c : Nat} (h : mRes c i = some (y, 0, n)) : Com c y n ∧ Cond.methodLink (ow c) i (mN y) ∈ GW ∧ Cond.initialized (mN y).cls ∈ GW ∧ Cond.code (mN y) (mB y) (mM y) (mR y) ∈ GW ∧ mH y = [] ∧ Cond.static (mN y) ∈ GW := by
  obtain ⟨ps, hk⟩ := mRes_ok h
  unfold okM at hk
  dsimp only at hk
  rw [if_neg (by decide), if_neg (by decide), if_neg (by decide), if_neg (by decide), if_neg (by decide), if_pos (by decide)] at hk
  simp only [Bool.and_eq_true, decide_eq_true_eq] at hk
  obtain ⟨⟨⟨⟨⟨-, k1⟩, k2⟩, k3⟩, k4⟩, ⟨⟨k5, k6⟩, k7, k8⟩, k9⟩ := hk
  exact ⟨⟨k1, k2, k3, k4⟩, atW_mem k5, atW_mem k6, atW_mem k7, k8, atW_mem k9⟩
theorem mres6 {c : Nat} (h : mRes c i = some (y, 6, n)) : Com c y n ∧ Cond.methodLink (ow c) i (mN y) ∈ GW ∧ Cond.initialized (mN y).cls ∈ GW ∧ Cond.codeWith (mN y) (mB y) (mM y) (mR y) (mH y) ∈ GW ∧ Cond.static (mN y) ∈ GW := by
  obtain ⟨ps, hk⟩ := mRes_ok h
  unfold okM at hk
  dsimp only at hk
  rw [if_neg (by decide), if_neg (by decide), if_neg (by decide), if_neg (by decide), if_pos (by decide), if_pos (by decide)] at hk
  simp only [Bool.and_eq_true, decide_eq_true_eq] at hk
  obtain ⟨⟨⟨⟨⟨-, k1⟩, k2⟩, k3⟩, k4⟩, ⟨⟨k5, k6⟩, k7⟩, k9⟩ := hk
  exact ⟨⟨k1, k2, k3, k4⟩, atW_mem k5, atW_mem k6, atW_mem k7, atW_mem k9⟩
theorem mres1 {c mode : Nat} (hmd : mode = 1 ∨ mode = 5) (h : mRes c i = some (y, mode, n)) : Com c y n ∧ Cond.methodLink (ow c) i (mN y) ∈ GW ∧ Cond.initialized (mN y).cls ∈ GW ∧ Cond.code (mN y) (mB y) (mM y) (mR y) ∈ GW ∧ mH y = [] ∧ Cond.instanceMethod (mN y) ∈ GW ∧ Cond.selects (mN y).cls (mN y) (mN y) ∈ GW := by
  obtain ⟨ps, hk⟩ := mRes_ok h
  unfold okM at hk
  dsimp only at hk
  rw [if_neg (by omega), if_neg (by omega), if_neg (by omega), if_neg (by omega), if_neg (by omega), if_neg (by omega), if_neg (by omega)] at hk
  simp only [Bool.and_eq_true, decide_eq_true_eq] at hk
  obtain ⟨⟨⟨⟨⟨-, k1⟩, k2⟩, k3⟩, k4⟩, ⟨⟨k5, k6⟩, k7, k8⟩, k9, k10⟩ := hk
  exact ⟨⟨k1, k2, k3, k4⟩, atW_mem k5, atW_mem k6, atW_mem k7, k8, atW_mem k9, atW_mem k10⟩
theorem mres2 {c : Nat} (h : mRes c i = some (y, 2, n)) : Com c y n ∧ Cond.methodLink (ow c) i (mN y) ∈ GW ∧ Cond.initialized (mN y).cls ∈ GW ∧ Cond.code (mN y) (mB y) (mM y) (mR y) ∈ GW ∧ mH y = [] ∧ Cond.instanceMethod (mN y) ∈ GW ∧ (mN y).name = "<init>" ∧ mR y = none := by
  obtain ⟨ps, hk⟩ := mRes_ok h
  unfold okM at hk
  dsimp only at hk
  rw [if_neg (by decide), if_neg (by decide), if_neg (by decide), if_neg (by decide), if_neg (by decide), if_neg (by decide), if_pos (by decide)] at hk
  simp only [Bool.and_eq_true, decide_eq_true_eq] at hk
  obtain ⟨⟨⟨⟨⟨-, k1⟩, k2⟩, k3⟩, k4⟩, ⟨⟨k5, k6⟩, k7, k8⟩, k9, k10⟩ := hk
  exact ⟨⟨k1, k2, k3, k4⟩, atW_mem k5, atW_mem k6, atW_mem k7, k8, atW_mem k9, k10⟩
theorem mres3 {c : Nat} (h : mRes c i = some (y, 3, n)) : Com c y n ∧ (ow c, i, mN y) ∈ nestL ∧ Cond.initialized (mN y).cls ∈ GW ∧ Cond.code (mN y) (mB y) (mM y) (mR y) ∈ GW ∧ mH y = [] ∧ Cond.static (mN y) ∈ GW := by
  obtain ⟨ps, hk⟩ := mRes_ok h
  unfold okM at hk
  dsimp only at hk
  rw [if_neg (by decide), if_neg (by decide), if_neg (by decide), if_pos (by decide), if_pos (by decide)] at hk
  simp only [Bool.and_eq_true, decide_eq_true_eq] at hk
  obtain ⟨⟨⟨⟨⟨-, k1⟩, k2⟩, k3⟩, k4⟩, ⟨⟨⟨k5, k6⟩, k7⟩, k9⟩, k8⟩ := hk
  exact ⟨⟨k1, k2, k3, k4⟩, k5, atW_mem k6, atW_mem k7, k8, atW_mem k9⟩
theorem mres4 {c : Nat} (h : mRes c i = some (y, 4, n)) : Com c y n ∧ (ow c, i, mN y) ∈ nestL ∧ Cond.initialized (mN y).cls ∈ GW ∧ Cond.code (mN y) (mB y) (mM y) (mR y) ∈ GW ∧ mH y = [] ∧ Cond.instanceMethod (mN y) ∈ GW ∧ (mN y).name = "<init>" ∧ mR y = none := by
  obtain ⟨ps, hk⟩ := mRes_ok h
  unfold okM at hk
  dsimp only at hk
  rw [if_neg (by decide), if_neg (by decide), if_neg (by decide), if_pos (by decide), if_neg (by decide)] at hk
  simp only [Bool.and_eq_true, decide_eq_true_eq] at hk
  obtain ⟨⟨⟨⟨⟨-, k1⟩, k2⟩, k3⟩, k4⟩, ⟨⟨⟨k5, k6⟩, k7⟩, k9, k10⟩, k8⟩ := hk
  exact ⟨⟨k1, k2, k3, k4⟩, k5, atW_mem k6, atW_mem k7, k8, atW_mem k9, k10⟩
theorem mres7 {c : Nat} (h : mRes c i = some (y, 7, n)) : Cond.methodLink (ow c) i objectInit ∈ GW ∧ Cond.instanceMethod objectInit ∈ GW ∧ Cond.code objectInit ⟨#[0xb1]⟩ 1 none ∈ GW := by
  obtain ⟨ps, hk⟩ := mRes_ok h
  unfold okM at hk
  dsimp only at hk
  rw [if_neg (by decide), if_neg (by decide), if_pos (by decide)] at hk
  simp only [Bool.and_eq_true, decide_eq_true_eq] at hk
  exact ⟨atW_mem hk.1.1, atW_mem hk.1.2, atW_mem hk.2⟩
theorem mres8 {c : Nat} (h : mRes c i = some (y, 8, n)) : Cond.methodLink (ow c) i arraycopyName ∈ GW ∧ Cond.native arraycopyName ∈ GW ∧ Cond.static arraycopyName ∈ GW ∧ Cond.initialized "java/lang/System" ∈ GW := by
  obtain ⟨ps, hk⟩ := mRes_ok h
  unfold okM at hk
  dsimp only at hk
  rw [if_pos (by decide)] at hk
  simp only [Bool.and_eq_true, decide_eq_true_eq] at hk
  exact ⟨atW_mem hk.1.1.1, atW_mem hk.1.1.2, atW_mem hk.1.2, atW_mem hk.2⟩
theorem mres9 {c : Nat} (h : mRes c i = some (y, 9, n)) : Cond.methodLink (ow c) i Lib.Math.min.name ∈ GW ∧ Cond.static Lib.Math.min.name ∈ GW ∧ Cond.initialized "java/lang/Math" ∈ GW ∧ Cond.code Lib.Math.min.name Lib.Math.min.code 2 (some .int) ∈ GW := by
  obtain ⟨ps, hk⟩ := mRes_ok h
  unfold okM at hk
  dsimp only at hk
  rw [if_neg (by decide), if_pos (by decide)] at hk
  simp only [Bool.and_eq_true, decide_eq_true_eq] at hk
  exact ⟨atW_mem hk.1.1.1, atW_mem hk.1.1.2, atW_mem hk.1.2, atW_mem hk.2⟩
/-- behind a call that returns -/
theorem r_cont {p : Program} {e : Env} {R : Room} {s : State} {mid : MethodId} {args : Array Value} {below : List Frame} {meth : Method} {c : Code} {H : Heap} {locs : List Loc} {cells slots mc ms : Nat} {ls : Array Slot} {st0 rest0 : List Value} {Q : State → Prop} {A : Nat → Nat} {B : (Nat → Nat) → State → Prop} {A1 As : Nat → Prop} {a : Array Value} {v : Option Value} {k : Nat} (hv : vOK v)
    (hr : va_Run p l e R s mid args below meth c H locs cells slots mc ms (F0 mid pc ls st0) rest0 (QcC v k A B A1 a) A1) (hS : va_S As s.heap H locs) (hA : ∀ q, A1 q → As q)
    (kk : ∀ (u : Nat → Nat) (t : State) (H1 : Heap) (locs1 : List Loc), t.heap = H1 → (∀ i, i < k → u i = A i) → B u t → va_S As s.heap H1 locs1 → W p l e R s mid args below meth c H1 locs1 (cells + mc) (slots + ms) Q (F0 mid (pc + 3) ls (v.toList ++ rest0))) : W p l e R s mid args below meth c H locs cells slots Q (F0 mid pc ls st0) := by
  rcases hv with rfl | ⟨x, rfl⟩ | ⟨x, rfl⟩ | ⟨x, rfl⟩
  · exact va_callv (a := a) hr hS (fun q _ h => hA q h) hA (fun u t H1 locs1 h1 _ h2 h3 _ _ h6 => kk u t H1 locs1 h1 h2 h3 h6)
  · exact va_calli (a := a) hr hS (fun q _ h => hA q h) hA (fun r u t H1 locs1 h1 _ h2 h3 _ _ h6 => by rw [h2.1]; exact kk u t H1 locs1 h1 h2.2 h3 h6)
  · exact va_calll (a := a) hr hS (fun q _ h => hA q h) hA (fun r u t H1 locs1 h1 _ h2 h3 _ _ h6 => by rw [h2.1]; exact kk u t H1 locs1 h1 h2.2 h3 h6)
  · exact va_calld (a := a) hr hS (fun q _ h => hA q h) hA (fun r u t H1 locs1 h1 _ h2 h3 _ _ h6 => by rw [h2.1]; exact kk u t H1 locs1 h1 h2.2 h3 h6)
/-- a call that returns, by its run -/
theorem Sem.call {v : Option Value} {st0 : List Value} (hok : RunOK h (.inl (v, h'))) (hmo : hc h' ≤ hc (rH r) ∧ hs h' ≤ hs (rH r)) (hLs : WFl (hn h) Ls) (hrest : WFl (hn h) rest)
    (hrow : ∀ (D : va_G) (ca : Nat → ClassId) (b : Nat) (As : Nat → Prop) (p : Program) (e : Env) (R : Room) (s : State) (mid : MethodId) (args : Array Value) (below : List Frame) (meth : Method) (c : Code) (A : Nat → Nat) (H : Heap) (locs : List Loc) (cells slots : Nat) (ls : Array Slot),
      Cx l L xs m D ca b As p R s mid args meth c → ls.size = mM m → va_P D vwCl (wld ca A h) H → va_D As (wld ca A h) → va_S As s.heap H locs → cells + (hc h' - hc h) ≤ R.cells → slots + (hs h' - hs h) ≤ R.slots →
      ∃ a, va_Run p l e R s mid args below meth c H locs cells slots (hc h' - hc h) (hs h' - hs h) (F0 mid pc ls (st0.map (tv A b))) (rest.map (tv A b)) (QcC v (hn h) A (BC D ca h' (va_A (wld ca A h) H.size)) (va_A (wld ca A h) H.size) a) (va_A (wld ca A h) H.size))
    (K : Sem l L xs m (pc + 3) Ls (v.toList ++ rest) h' r) : Sem l L xs m pc Ls st0 h r := by
  obtain ⟨o1, o2, o3, o4, o5, -⟩ := hok
  have o2 : hn h ≤ hn h' := o2
  have o3 : hc h ≤ hc h' := o3
  have o4 : hs h ≤ hs h' := o4
  have hv : vOK v := o5 _ rfl
  intro D ca b As p e R s mid args below meth c Q c0 s0 n0 A0 hC hE A H locs cells slots ls h1 h2 h3 h4 h5 h6
  obtain ⟨hP, hD, hS, q4, q5⟩ := h3
  obtain ⟨hx, hb, hr, hml, hown, hts, hlk, hnm9, htab, hRf, hRl, hK9, hG, hZ, hA9, hlaw, hcl9, hst9⟩ := id hC
  have hfr := wld_free (D := D) hD hS hA9
  obtain ⟨m1, m2⟩ := hmo
  obtain ⟨a, hrun⟩ := hrow D ca b As p e R s mid args below meth c A H locs cells slots ls hC h6.1 hP hD hS (by omega) (by omega)
  refine r_cont hv hrun hS hfr (fun u t H1 locs1 ht hag hB hS1 => ?_)
  obtain ⟨b1, b2⟩ := hB
  rw [ht] at b1
  have K9 := K D ca b As p e R s mid args below meth c Q c0 s0 n0 A0 hC hE u H1 locs1 (cells + (hc h' - hc h)) (slots + (hs h' - hs h)) ls (Nat.le_trans h1 o2) (fun i hi => by rw [hag i (by omega)]; exact h2 i hi) ⟨b1, b2.weaken (fun _ _ _ q => hfr _ q), hS1, by omega, by omega⟩ h4 h5 (lv_mono h6 (fun x hx => lvO_ext hag hLs hx))
  have e9 : (v.toList ++ rest).map (tv u b) = v.toList ++ rest.map (tv A b) := by
    rw [List.map_append, tvl_ext hag hrest]
    congr 1
    rcases hv with rfl | ⟨x, rfl⟩ | ⟨x, rfl⟩ | ⟨x, rfl⟩ <;> rfl
  rw [e9] at K9
  exact K9
end
end
section
/-! SOUNDNESS: a run of the abstract machine is a run of the machine -/
section
variable {l : Launch} {L : Nat} {xs : Nat → Int32} {m y : MD} {pc i n : Nat} {Ls st vs rest : List Value} {h h' : AH} {r : Res}
theorem wds_rev (l : List Value) : wds l.reverse = wds l := by
  unfold wds
  rw [List.map_reverse, List.sum_reverse]
theorem ow_cR {k : Nat} (hk : k < 8) : ow k = cR k := by
  rcases (show k = 0 ∨ k = 1 ∨ k = 2 ∨ k = 3 ∨ k = 4 ∨ k = 5 ∨ k = 6 ∨ k = 7 by omega) with rfl | rfl | rfl | rfl | rfl | rfl | rfl | rfl <;> rfl
theorem stack_split (A : Nat → Nat) (b n : Nat) (st : List Value) : st.map (tv A b) = ((st.take n).reverse.map (tv A b)).reverse ++ (st.drop n).map (tv A b) := by
  rw [List.map_reverse, List.reverse_reverse, ← List.map_append, List.take_append_drop]
theorem args_len (A : Nat → Nat) (b n : Nat) (st : List Value) (hn : n ≤ st.length) : ((st.take n).reverse.map (tv A b)).length = n := by
  rw [List.length_map, List.length_reverse, List.length_take]
  omega
theorem r_callS {v : Option Value} {mode : Nat} (hl : l.stackTraces = false) (hd : decode (mB m) pc = .ok (.invokestatic i, 3)) (hmd : mode = 0 ∨ mode = 3 ∨ mode = 6) (hm : mRes (mC m) i = some (y, mode, n)) (hlev : mV y < mV m) (hw8 : wds (st.drop n) ≤ 8) (hn9 : n ≤ st.length) (hwd : wds (st.take n) ≤ mM y)
    (hLs : WFl (hn h) Ls) (hst : WFl (hn h) st) (hS9 : Sem l L xs y 0 (entL (st.take n).reverse (mM y)) [] h (.inl (v, h'))) (hok : RunOK h (.inl (v, h'))) (hmo : hc h' ≤ hc (rH r) ∧ hs h' ≤ hs (rH r)) (K : Sem l L xs m (pc + 3) Ls (v.toList ++ st.drop n) h' r) : Sem l L xs m pc Ls st h r := by
  refine Sem.call (rest := st.drop n) hok hmo hLs (WFl_drop hst) (fun D ca b As p e R s mid args below meth c A H locs cells slots ls hC hz hP hD hS hc1 hs1 => ?_) K
  obtain ⟨hx, hb, hr, hml, hown, hts, hlk, hnm9, htab, hRf, hRl, hK9, hG, hZ, hA9, hlaw, hcl9, hst9⟩ := id hC
  have hlen : wds (st.take n).reverse ≤ mM y := by rw [wds_rev]; exact hwd
  refine ⟨((st.take n).reverse.map (tv A b)).toArray, ?_⟩
  rcases hmd with rfl | rfl | rfl
  · obtain ⟨⟨⟨c1, c5⟩, c2, c3, c4⟩, w1, w2, w3, w4, w5⟩ := mres0 hm
    refine va_runS (n := n) (As := (st.take n).reverse.map (tv A b)) (rest := (st.drop n).map (tv A b)) ⟨hx, hb, hml, hC.own, hts⟩ (met_ret (D := D) (ca := ca) (b := b) (A := A) (sz := H.size) hl hS9 hlen c3 c2 w4) (va_cwS n hts (GW_self ?_) rfl rfl rfl c4 ⟨by show mV y + 1 ≤ _; rw [hRf]; omega, by show 8 + (mM y + 11) + 35 * mV y ≤ _; exact Nat.le_trans (by omega) hRl⟩) ⟨PcC_blind, PcC_at hC hP hD hS c5⟩ rfl (args_len A b n st hn9) hz (stack_split A b n st) (lv_room (by rw [wds_tv]; exact hw8)) hd ⟨hc1, hs1⟩
    intro w hw
    simp only [va_wsS, wsM, List.cons_append, List.nil_append, List.mem_cons] at hw
    rcases hw with rfl | rfl | rfl | rfl | hw
    · exact w1
    · exact w5
    · exact w2
    · exact w3
    · exact hw
  · obtain ⟨⟨⟨c1, c5⟩, c2, c3, c4⟩, w1, w2, w3, w4, w5⟩ := mres3 hm
    refine va_runSN (n := n) (host := "CrossingPosts") (As := (st.take n).reverse.map (tv A b)) (rest := (st.drop n).map (tv A b)) ⟨hx, hb, hml, hC.own, hts⟩ (met_ret (D := D) (ca := ca) (b := b) (A := A) (sz := H.size) hl hS9 hlen c3 c2 w4) ⟨va_cnB n hts (GW_self ?_) rfl rfl rfl (hG.1 _ w1) (hts _ w2) c4 ⟨by show mV y + 1 ≤ _; rw [hRf]; omega, by show 8 + (mM y + 11) + 35 * mV y ≤ _; exact Nat.le_trans (by omega) hRl⟩, hts _ w5, trivial⟩ ⟨PcC_blind, PcC_at hC hP hD hS c5⟩ rfl (args_len A b n st hn9) hz (stack_split A b n st) (lv_room (by rw [wds_tv]; exact hw8)) hd ⟨hc1, hs1⟩
    intro w hw
    rcases List.mem_cons.mp hw with rfl | hw
    · exact w3
    · exact hw
  · obtain ⟨⟨⟨c1, c5⟩, c2, c3, c4⟩, w1, w2, w3, w5⟩ := mres6 hm
    refine vx_runSW (n := n) (As := (st.take n).reverse.map (tv A b)) (rest := (st.drop n).map (tv A b)) ⟨hx, hb, hml, hC.own, hts⟩ (met_retW (D := D) (ca := ca) (b := b) (A := A) (sz := H.size) hl hS9 hlen c3 c2) (vx_cwSW n hts (GW_self ?_) rfl rfl rfl c4 ⟨by show mV y + 1 ≤ _; rw [hRf]; omega, by show 8 + (mM y + 11) + 35 * mV y ≤ _; exact Nat.le_trans (by omega) hRl⟩) ⟨PcC_blind, PcC_at hC hP hD hS c5⟩ rfl (args_len A b n st hn9) hz (stack_split A b n st) (lv_room (by rw [wds_tv]; exact hw8)) hd ⟨hc1, hs1⟩
    intro w hw
    simp only [va_wsS, wsW, List.cons_append, List.nil_append, List.mem_cons] at hw
    rcases hw with rfl | rfl | rfl | rfl | hw
    · exact w1
    · exact w5
    · exact w2
    · exact w3
    · exact hw
theorem stack_splitV (A : Nat → Nat) (b n a : Nat) {st rest : List Value} (hd : st.drop n = .ref a :: rest) : st.map (tv A b) = ((st.take n).reverse.map (tv A b)).reverse ++ .ref (A a) :: rest.map (tv A b) := by
  rw [stack_split A b n st, hd]
  rfl
theorem r_callV {v : Option Value} {mode a : Nat} (hl : l.stackTraces = false) (hd : decode (mB m) pc = .ok (.invokevirtual i, 3)) (hmd : mode = 1 ∨ mode = 5) (hm : mRes (mC m) i = some (y, mode, n)) (hdr : st.drop n = .ref a :: rest) (hlev : mV y < mV m) (hw8 : wds rest ≤ 8) (hn9 : n ≤ st.length) (hwd : wds (st.take n) + 1 ≤ mM y) (hk : hK h a = mC y) (h8 : mC y < 8)
    (hLs : WFl (hn h) Ls) (hst : WFl (hn h) st) (hS9 : Sem l L xs y 0 (entL (.ref a :: (st.take n).reverse) (mM y)) [] h (.inl (v, h'))) (hok : RunOK h (.inl (v, h'))) (hmo : hc h' ≤ hc (rH r) ∧ hs h' ≤ hs (rH r)) (K : Sem l L xs m (pc + 3) Ls (v.toList ++ rest) h' r) : Sem l L xs m pc Ls st h r := by
  have hdw := WFl_drop (k := n) hst
  rw [hdr, WFl_cons] at hdw
  have ha : a < hn h := hdw.1 a rfl
  refine Sem.call (rest := rest) hok hmo hLs hdw.2 (fun D ca b As p e R s mid args below meth c A H locs cells slots ls hC hz hP hD hS hc1 hs1 => ?_) K
  obtain ⟨hx, hb, hr, hml, hown, hts, hlk, hnm9, htab, hRf, hRl, hK9, hG, hZ, hA9, hlaw, hcl9, hst9⟩ := id hC
  have hlen : wds (.ref a :: (st.take n).reverse) ≤ mM y := by
    show (List.map _ _).sum ≤ _
    rw [List.map_cons, List.sum_cons]
    have := wds_rev (st.take n)
    unfold wds at this hwd
    rw [this]
    show 1 + _ ≤ _
    omega
  obtain ⟨⟨⟨c1, c5⟩, c2, c3, c4⟩, w1, w2, w3, w4, w5, w6⟩ := mres1 hmd hm
  have hcc : (mN y).cls = cR (mC y) := by rw [c2, ow_cR h8]
  refine ⟨(Value.ref (A a) :: (st.take n).reverse.map (tv A b)).toArray, ?_⟩
  refine va_runV (n := n) (C := (mN y).cls) (As := (st.take n).reverse.map (tv A b)) (rest := rest.map (tv A b)) ⟨hx, hb, hml, hC.own, hts⟩ (met_ret (D := D) (ca := ca) (b := b) (A := A) (sz := H.size) hl hS9 hlen c3 c2 w4) (cwV n hts (GW_self ?_) rfl rfl rfl ⟨rfl, c4⟩ ⟨by show mV y + 1 ≤ _; rw [hRf]; omega, by show 8 + (mM y + 11) + 35 * mV y ≤ _; exact Nat.le_trans (by omega) hRl⟩) ⟨PcC_blind, ?_, PcC_at (vs := .ref a :: (st.take n).reverse) hC hP hD hS c5⟩ rfl (args_len A b n st hn9) hz (stack_splitV A b n a hdr) (lv_room (by rw [wds_tv]; exact hw8)) hd ⟨hc1, hs1⟩
  · intro w hw
    simp only [wsV, wsM, List.cons_append, List.nil_append, List.mem_cons] at hw
    rcases hw with rfl | rfl | rfl | rfl | rfl | hw
    · exact w1
    · exact w5
    · exact w6
    · exact w2
    · exact w3
    · exact hw
  · have := va_recv hK9 hP (cls_ok (mC y) h8) (show (wld ca A h)[a]? = some (A a, .inr (mC y, (List.range (cN (mC y))).map (fvl A h (mC y) a))) by rw [wld_at ha, cont_obj hk h8])
    rw [hcc]
    exact this
theorem r_callI {v : Option Value} {mode a : Nat} (hl : l.stackTraces = false) (hd : decode (mB m) pc = .ok (.invokespecial i, 3)) (hmd : mode = 2 ∨ mode = 4) (hm : mRes (mC m) i = some (y, mode, n)) (hdr : st.drop n = .ref a :: rest) (hlev : mV y < mV m) (hw8 : wds rest ≤ 8) (hn9 : n ≤ st.length) (hwd : wds (st.take n) + 1 ≤ mM y)
    (hLs : WFl (hn h) Ls) (hst : WFl (hn h) st) (hS9 : Sem l L xs y 0 (entL (.ref a :: (st.take n).reverse) (mM y)) [] h (.inl (v, h'))) (hok : RunOK h (.inl (v, h'))) (hmo : hc h' ≤ hc (rH r) ∧ hs h' ≤ hs (rH r)) (K : Sem l L xs m (pc + 3) Ls (v.toList ++ rest) h' r) : Sem l L xs m pc Ls st h r := by
  have hdw := WFl_drop (k := n) hst
  rw [hdr, WFl_cons] at hdw
  refine Sem.call (rest := rest) hok hmo hLs hdw.2 (fun D ca b As p e R s mid args below meth c A H locs cells slots ls hC hz hP hD hS hc1 hs1 => ?_) K
  obtain ⟨hx, hb, hr, hml, hown, hts, hlk, hnm9, htab, hRf, hRl, hK9, hG, hZ, hA9, hlaw, hcl9, hst9⟩ := id hC
  have hlen : wds (.ref a :: (st.take n).reverse) ≤ mM y := by
    show (List.map _ _).sum ≤ _
    rw [List.map_cons, List.sum_cons]
    have := wds_rev (st.take n)
    unfold wds at this hwd
    rw [this]
    show 1 + _ ≤ _
    omega
  refine ⟨(Value.ref (A a) :: (st.take n).reverse.map (tv A b)).toArray, ?_⟩
  rcases hmd with rfl | rfl
  · obtain ⟨⟨⟨c1, c5⟩, c2, c3, c4⟩, w1, w2, w3, w4, w5, w6, w7⟩ := mres2 hm
    refine va_runI (n := n) (As := (st.take n).reverse.map (tv A b)) (rest := rest.map (tv A b)) ⟨hx, hb, hml, hC.own, hts⟩ (met_ret (D := D) (ca := ca) (b := b) (A := A) (sz := H.size) hl hS9 hlen c3 c2 w4) (cwI n hts (GW_self ?_) (by unfold wsM; rw [w7]) rfl rfl (hts _ w2) (hts _ w1) (hts _ w5) w6 c4 ⟨by show mV y + 1 ≤ _; rw [hRf]; omega, by show 8 + (mM y + 11) + 35 * mV y ≤ _; exact Nat.le_trans (by omega) hRl⟩) ⟨PcC_blind, PcC_at (vs := .ref a :: (st.take n).reverse) hC hP hD hS c5⟩ rfl (args_len A b n st hn9) hz (stack_splitV A b n a hdr) (lv_room (by rw [wds_tv]; exact hw8)) hd ⟨hc1, hs1⟩
    intro w hw
    rcases List.mem_cons.mp hw with rfl | hw
    · exact w3
    · exact hw
  · obtain ⟨⟨⟨c1, c5⟩, c2, c3, c4⟩, w1, w2, w3, w4, w5, w6, w7⟩ := mres4 hm
    refine va_runIN (n := n) (host := "CrossingPosts") (As := (st.take n).reverse.map (tv A b)) (rest := rest.map (tv A b)) ⟨hx, hb, hml, hC.own, hts⟩ (met_ret (D := D) (ca := ca) (b := b) (A := A) (sz := H.size) hl hS9 hlen c3 c2 w4) ⟨va_cnB n hts (GW_self ?_) (by unfold wsM; rw [w7]) rfl rfl (hG.1 _ w1) (hts _ w2) c4 ⟨by show mV y + 1 ≤ _; rw [hRf]; omega, by show 8 + (mM y + 11) + 35 * mV y ≤ _; exact Nat.le_trans (by omega) hRl⟩, w6, hts _ w5⟩ ⟨PcC_blind, PcC_at (vs := .ref a :: (st.take n).reverse) hC hP hD hS c5⟩ rfl (args_len A b n st hn9) hz (stack_splitV A b n a hdr) (lv_room (by rw [wds_tv]; exact hw8)) hd ⟨hc1, hs1⟩
    intro w hw
    rcases List.mem_cons.mp hw with rfl | hw
    · exact w3
    · exact hw
end
end
section
/-! A THROW, AND ITS CATCHING BY THE CALLER -/
section
variable {l : Launch} {L : Nat} {xs : Nat → Int32} {m y : MD} {pc i n : Nat} {Ls st vs rest : List Value} {h h' : AH} {r : Res}
def upN : List String := ["java/lang/RuntimeException", "java/lang/Exception"]
def okX (q : Nat × Nat × String × Nat) : Bool := atW q.2.2.2 (.classLink RX6 q.1 q.2.2.1) && decide (Cond.initialized q.2.2.1 ∈ lw_tbl) && decide (q.2.2.1 ∈ exL) && Bundle.fit q.2.2.1 &&
  (vx_atS RX6 q.2.1 q.2.2.1 upN).all (fun w => (goodWord w && decide (w ∈ lw_tbl)) || decide (w ∈ declL.map Cond.declares) || decide (w ∈ exL.map (fun E => Cond.castable E E))) &&
  (Cond.classLink RX6 q.1 q.2.2.1 :: Cond.initialized q.2.2.1 :: vx_atS RX6 q.2.1 q.2.2.1 upN).all vx_ot
set_option maxRecDepth 100000 in
theorem xRT_ok : ∀ q ∈ xRT, okX q = true := List.all_eq_true.mp (by decide +kernel)
theorem upN_fit : ∀ x ∈ upN, Bundle.fit x = true := by decide +kernel
theorem xRes_ok {ik ic : Nat} {E : String} (h : xRes ik ic = some E) : Cond.classLink RX6 ik E ∈ GW ∧ Cond.initialized E ∈ GW ∧ E ∈ exL ∧ Bundle.fit E = true ∧
    (∀ w ∈ vx_atS RX6 ic E upN, w ∈ GW ∨ (∃ x ∈ declL, w = .declares x) ∨ ∃ E' ∈ exL, w = .castable E' E') ∧ ∀ w ∈ Cond.classLink RX6 ik E :: Cond.initialized E :: vx_atS RX6 ic E upN, vx_ot w = true := by
  unfold xRes at h
  obtain ⟨q, hq, he⟩ := Option.map_eq_some_iff.mp h
  have hp := List.find?_some hq
  rw [Bool.and_eq_true, beq_iff_eq, beq_iff_eq] at hp
  have ho := xRT_ok q (List.mem_of_find?_eq_some hq)
  obtain ⟨q1, q2, q3, q4⟩ := q
  cases he
  obtain ⟨rfl, rfl⟩ := hp
  unfold okX at ho
  simp only [Bool.and_eq_true, decide_eq_true_eq] at ho
  obtain ⟨⟨⟨⟨⟨k1, k2⟩, k3⟩, k4⟩, k5⟩, k6⟩ := ho
  refine ⟨atW_mem k1, List.mem_filter.mpr ⟨k2, rfl⟩, k3, k4, fun w hw => ?_, List.all_eq_true.mp k6⟩
  have := List.all_eq_true.mp k5 w hw
  simp only [Bool.or_eq_true, Bool.and_eq_true, decide_eq_true_eq] at this
  rcases this with (z | z) | z
  · exact Or.inl (List.mem_filter.mpr ⟨z.2, z.1⟩)
  · obtain ⟨x, hx, e⟩ := List.mem_map.mp z
    exact Or.inr (Or.inl ⟨x, hx, e.symm⟩)
  · obtain ⟨x, hx, e⟩ := List.mem_map.mp z
    exact Or.inr (Or.inr ⟨x, hx, e.symm⟩)
theorem use_Nw {w : Cond} (hw : w.onTables = true) {s : State} {args : Array Value} (hZ : va_Nw w s) : w.before args s = true := va_tabs hw rfl hZ
def QcF (As : Nat → Prop) : Array Value → State → Outcome → State → Prop := va_Qi (fun (_ : Int32) (_ : Unit) => False) (fun _ _ => True) As
def XcC (D : va_G) (ca : Nat → ClassId) (E : String) (k : Nat) (A : Nat → Nat) (h' : AH) (As : Nat → Prop) : String → State → State → Prop := vx_X (fun (u : Nat → Nat) => ∀ i, i < k → u i = A i) (fun E' u t => E' = E ∧ BC D ca h' As u t) As
theorem met_thr {D : va_G} {ca : Nat → ClassId} {b : Nat} {A : Nat → Nat} {sz : Nat} {E : String} (hl : l.stackTraces = false) (hS : Sem l L xs y 0 (entL vs (mM y)) [] h (.inr (E, h'))) (hlen : wds vs ≤ mM y) (hpl : plainName (mN y).cls = true) (hcl : (mN y).cls = ow (mC y))  (hno : mH y = []) :
    vx_Met l (mN y) (wsM y) (rmC y (hc h' - hc h) (hs h' - hs h)) (PcC y L xs D ca b A h sz vs) (QcF (va_A (wld ca A h) sz)) (XcC D ca E (hn h) A h' (va_A (wld ca A h) sz)) (hc h' - hc h) (hs h' - hs h) (va_A (wld ca A h) sz) := by
  refine vx_ofW (cc := mB y) (maxL := mM y) (ret := mR y) hpl rfl ?_
  intro p e s mid args below meth c s₁ B hml hnt hv
  have hsz := hv.2.1
  subst hsz
  have htab : c.exceptionTable.toList = tableOf (mH y) := by
    rw [hno]
    exact List.eq_nil_iff_forall_not_mem.mpr (fun x hx => hnt x hx)
  have hC := Cx_body (L := L) (xs := xs) hl hcl B hml (fun w hw => List.mem_cons_of_mem _ hw) htab hv
  refine body_sem (ws := wsM y) hS hlen hC (by show hc h' ≤ _; omega) (by show hs h' ≤ _; omega) hv ⟨fun A' H locs cells slots pc ls v' h1 he => (by cases he), ?_⟩
  intro A' H locs cells slots pc ls E' h1 he hag hpos hthr hlsz
  cases he
  obtain ⟨hP, hD, hS9, h4, h5⟩ := hpos
  obtain ⟨hx, hb, hr, hml9, hown, hts, hlk, hnm9, htab9, hRf, hRl, hK9, hG, hZ, hA9, hlaw, hcl9, hst9⟩ := id hC
  obtain ⟨ik, is, ic, tx, d0, d3, d469, hxr, hsr, hm6, hm9, hmh⟩ := hthr
  obtain ⟨x1, x2, x3, x4, x5, x6⟩ := xRes_ok hxr
  have hown6 : s.vm.findClass RX6 = some mid.cls := by
    have := hC.own
    rw [hm6] at this
    exact this
  obtain ⟨sa, hsa⟩ := hG.2.2.2.2.1 _ hsr
  have e4 : hc (bump h1) = hc h1 + 1 := rfl
  have e5 : hs (bump h1) = hs h1 + 6 := rfl
  rcases d469 with ⟨d4, d6, d9⟩ | ⟨d4, d7, d10⟩
  · refine vx_throwS (names := upN) (A := va_A (wld ca A h) s.heap.size) hx hb hl hown6 x4 upN_fit (hts _ x1) (hts _ x2) hsa (fun w hw => ?_) x6 hZ.1 hZ.2 hS9 hlsz d0 d3 d4 d6 d9 ?_ ?_ ?_ ?_ ?_ hlk (fun t hal hsz1 hkeep => ?_) hS9.2.2 ?_ ?_
    · rcases x5 w hw with z | ⟨x, hx9, rfl⟩ | ⟨E9, hE9, rfl⟩
      · exact hts _ z
      · exact use_Nw rfl (hG.2.2.1 x hx9)
      · exact use_Nw rfl (hG.2.1 E9 hE9)
    · intro x hx9
      exact absurd hx9 (fun z => (hnt x z).elim)
    · show upN.length + 3 < mV y
      rw [hm9]; decide
    · show ([] : List Nat).sum + (13 * (upN.length + 1) + 43) ≤ 35 * mV y
      rw [hm9]; decide
    · show cells + 1 ≤ hc (bump h1) - hc h
      omega
    · show slots + 6 ≤ hs (bump h1) - hs h
      omega
    · refine ⟨A', hag, ⟨rfl, ?_, hD⟩, ?_, ?_⟩
      · exact hP.kept (fun k q hk => hkeep q.1 ((hP k q hk).lt))
      · exact Nat.le_trans hS9.1 hsz1
      · intro q h1q h2q
        rw [hkeep q (Nat.lt_of_lt_of_le h1q hS9.1)]
        exact hS9.2.1 q h1q h2q
    · omega
    · omega
  · refine vx_throwSW (names := upN) (A := va_A (wld ca A h) s.heap.size) hx hb hl hown6 x4 upN_fit (hts _ x1) (hts _ x2) hsa (fun w hw => ?_) x6 hZ.1 hZ.2 hS9 hlsz d0 d3 d4 d7 d10 ?_ ?_ ?_ ?_ ?_ hlk (fun t hal hsz1 hkeep => ?_) hS9.2.2 ?_ ?_
    · rcases x5 w hw with z | ⟨x, hx9, rfl⟩ | ⟨E9, hE9, rfl⟩
      · exact hts _ z
      · exact use_Nw rfl (hG.2.2.1 x hx9)
      · exact use_Nw rfl (hG.2.1 E9 hE9)
    · intro x hx9
      exact absurd hx9 (fun z => (hnt x z).elim)
    · show upN.length + 3 < mV y
      rw [hm9]; decide
    · show ([] : List Nat).sum + (13 * (upN.length + 1) + 43) ≤ 35 * mV y
      rw [hm9]; decide
    · show cells + 1 ≤ hc (bump h1) - hc h
      omega
    · show slots + 6 ≤ hs (bump h1) - hs h
      omega
    · refine ⟨A', hag, ⟨rfl, ?_, hD⟩, ?_, ?_⟩
      · exact hP.kept (fun k q hk => hkeep q.1 ((hP k q hk).lt))
      · exact Nat.le_trans hS9.1 hsz1
      · intro q h1q h2q
        rw [hkeep q (Nat.lt_of_lt_of_le h1q hS9.1)]
        exact hS9.2.1 q h1q h2q
    · omega
    · omega
def okE (q : Nat × String × Nat) : Bool := atW q.2.2 (.classLink (ow 8) q.1 q.2.1) && decide (q.2.1 ∈ exN) && decide (q.1 ≠ 0)
set_option maxRecDepth 100000 in
theorem eRT_ok : ∀ q ∈ eRT, okE q = true := List.all_eq_true.mp (by decide +kernel)
theorem eRes_ok {j : Nat} {E : String} (h : eRes j = some E) : Cond.classLink (ow 8) j E ∈ GW ∧ E ∈ exN ∧ j ≠ 0 := by
  unfold eRes at h
  obtain ⟨q, hq, he⟩ := Option.map_eq_some_iff.mp h
  have hp := List.find?_some hq
  rw [beq_iff_eq] at hp
  have ho := eRT_ok q (List.mem_of_find?_eq_some hq)
  obtain ⟨q1, q2, q3⟩ := q
  cases he
  subst hp
  unfold okE at ho
  simp only [Bool.and_eq_true, decide_eq_true_eq] at ho
  exact ⟨atW_mem ho.1.1, ho.1.2, ho.2⟩
theorem hfind_spec {pc hp : Nat} {E : String} : ∀ hh : List (Nat × Nat × Nat × Nat), hfind pc E hh = some hp → ∃ pre x suf, hh = pre ++ x :: suf ∧ (x.1 ≤ pc ∧ pc < x.2.1) ∧ eRes x.2.2.2 = some E ∧ x.2.2.1 = hp ∧ ∀ z ∈ pre, ¬ (z.1 ≤ pc ∧ pc < z.2.1) ∨ ∃ E', eRes z.2.2.2 = some E' ∧ E' ≠ E
  | [], h => by cases h
  | q :: t, h => by
    unfold hfind at h
    split at h
    · rename_i hcov
      split at h
      · rename_i E' hE'
        split at h
        · rename_i he
          cases h
          exact ⟨[], q, t, rfl, hcov, by rw [hE', he], rfl, fun z hz => absurd hz List.not_mem_nil⟩
        · rename_i hne
          obtain ⟨pre, x, suf, e1, e2, e3, e4, e5⟩ := hfind_spec t h
          refine ⟨q :: pre, x, suf, by rw [e1]; rfl, e2, e3, e4, fun z hz => ?_⟩
          rcases List.mem_cons.mp hz with e | e
          · rw [e]; exact Or.inr ⟨E', hE', hne⟩
          · exact e5 z e
      · cases h
    · rename_i hcov
      obtain ⟨pre, x, suf, e1, e2, e3, e4, e5⟩ := hfind_spec t h
      refine ⟨q :: pre, x, suf, by rw [e1]; rfl, e2, e3, e4, fun z hz => ?_⟩
      rcases List.mem_cons.mp hz with e | e
      · rw [e]; exact Or.inl hcov
      · exact e5 z e
theorem r_callX {a : Nat} {E : String} {q : Nat × List Value} (hl : l.stackTraces = false) (hd : decode (mB m) pc = .ok (.invokevirtual i, 3)) {mode : Nat} (hmd : mode = 1 ∨ mode = 5) (hm : mRes (mC m) i = some (y, mode, n)) (hdr : st.drop n = .ref a :: rest) (hlev : mV y < mV m) (hw8 : wds rest ≤ 8) (hn9 : n ≤ st.length) (hwd : wds (st.take n) + 1 ≤ mM y) (hk : hK h a = mC y) (h8 : mC y < 8)
    (hLs : WFl (hn h) Ls) (hst : WFl (hn h) st) (hS9 : Sem l L xs y 0 (entL (.ref a :: (st.take n).reverse) (mM y)) [] h (.inr (E, h'))) (hE : E ∈ exL) (hok : RunOK h (.inr (E, h'))) (hmo : hc h' ≤ hc (rH r) ∧ hs h' ≤ hs (rH r)) (hh : hstep m pc Ls E = some q) (K : Sem l L xs m q.1 q.2 [] h' r) : Sem l L xs m pc Ls st h r := by
  have hdw := WFl_drop (k := n) hst
  rw [hdr, WFl_cons] at hdw
  have ha : a < hn h := hdw.1 a rfl
  obtain ⟨o1, o2, o3, o4, -, -⟩ := hok
  have o2 : hn h ≤ hn h' := o2
  have o3 : hc h ≤ hc h' := o3
  have o4 : hs h ≤ hs h' := o4
  intro D ca b As p e R s mid args below meth c Q c0 s0 n0 A0 hC hEn A H locs cells slots ls h1 h2 h3 h4 h5 h6
  obtain ⟨hP, hD, hS, q4, q5⟩ := h3
  obtain ⟨hx, hb, hr, hml, hown, hts, hlk, hnm9, htab, hRf, hRl, hK9, hG, hZ, hA9, hlaw, hcl9, hst9⟩ := id hC
  have hfr := wld_free (D := D) hD hS hA9
  obtain ⟨m1, m2⟩ := hmo
  have hlen : wds (.ref a :: (st.take n).reverse) ≤ mM y := by
    show (List.map _ _).sum ≤ _
    rw [List.map_cons, List.sum_cons]
    have := wds_rev (st.take n)
    unfold wds at this hwd
    rw [this]
    show 1 + _ ≤ _
    omega
  obtain ⟨⟨⟨c1, c5⟩, c2, c3, c4⟩, w1, w2, w3, w4, w5, w6⟩ := mres1 hmd hm
  have hcc : (mN y).cls = cR (mC y) := by rw [c2, ow_cR h8]
  have hmR : R.frames = mV m := hRf
  have hrun := vx_runV (p := p) (l := l) (e := e) (R := R) (s := s) (m := mid) (args := args) (below := below) (meth := meth) (c := c) (H := H) (locs := locs) (cells := cells) (slots := slots) (g := F0 mid pc ls (st.map (tv A b))) (n := n) (C := (mN y).cls) (As := (st.take n).reverse.map (tv A b)) (rest := rest.map (tv A b)) ⟨hx, hb, hml, hC.own, hts⟩ (met_thr (D := D) (ca := ca) (b := b) (A := A) (sz := H.size) hl hS9 hlen c3 c2 w4)
    (cwV n hts (GW_self (by
      intro w hw
      simp only [wsV, wsM, List.cons_append, List.nil_append, List.mem_cons] at hw
      rcases hw with rfl | rfl | rfl | rfl | rfl | hw
      · exact w1
      · exact w5
      · exact w6
      · exact w2
      · exact w3
      · exact hw)) rfl rfl rfl ⟨rfl, c4⟩ ⟨by show mV y + 1 ≤ _; rw [hRf]; omega, by show 8 + (mM y + 11) + 35 * mV y ≤ _; exact Nat.le_trans (by omega) hRl⟩)
    ⟨PcC_blind, (by
      have := va_recv hK9 hP (cls_ok (mC y) h8) (show (wld ca A h)[a]? = some (A a, .inr (mC y, (List.range (cN (mC y))).map (fvl A h (mC y) a))) by rw [wld_at ha, cont_obj hk h8])
      rw [hcc]
      exact this), PcC_at (vs := .ref a :: (st.take n).reverse) hC hP hD hS c5⟩ rfl (args_len A b n st hn9) h6.1 (stack_splitV A b n a hdr) (lv_room (by rw [wds_tv]; exact hw8)) hd (by omega)
  refine vx_calli hrun hS (fun z _ hz => hfr z hz) hfr (fun z _ hz => hfr z hz) (fun E9 ce q9 u t H1 locs1 ht hal hag hB hsz1 hkp hS1 hcell hvm hcls => ?_) (fun r9 u9 t9 H9 l9 _ _ hf => hf.elim)
  obtain ⟨rfl, b1, b2⟩ := hB
  rw [ht] at b1
  have hwf2 : WFl (hn h) q.2 := hstep_ok hLs hh
  replace hh := (hstep_of hh).2
  unfold hstep0 at hh
  split at hh
  · cases hh
  · rename_i hp hfd
    split at hh
    · rename_i hm8
      obtain ⟨pre, x, suf, e1, e2, e3, e4, e5⟩ := hfind_spec _ hfd
      obtain ⟨y1, y2, y3⟩ := eRes_ok e3
      have hown8 : s.vm.findClass (ow 8) = some mid.cls := by rw [← hm8]; exact hC.own
      have htab9 : c.exceptionTable.toList = (pre.map fun q => (⟨q.1, q.2.1, q.2.2.1, q.2.2.2⟩ : ExceptionTableEntry)) ++ ⟨x.1, x.2.1, x.2.2.1, x.2.2.2⟩ :: (suf.map fun q => (⟨q.1, q.2.1, q.2.2.1, q.2.2.2⟩ : ExceptionTableEntry)) := by
        rw [htab, e1]
        unfold tableOf
        rw [List.map_append]
        rfl
      refine vx_catch hown8 _ _ _ htab9 (fun z hz => ?_) (by simp [e2.1, e2.2]) y3 (hts _ y1) (use_Nw rfl (hG.2.1 _ hE)) hcell hvm hcls ?_
      · obtain ⟨z0, hz0, rfl⟩ := List.mem_map.mp hz
        rcases e5 z0 hz0 with e | ⟨E', e6, e7⟩
        · left
          simp only [covers, Bool.and_eq_false_iff, decide_eq_false_iff_not]
          by_cases q1 : z0.1 ≤ pc
          · exact Or.inr (fun q2 => e ⟨q1, q2⟩)
          · exact Or.inl q1
        · obtain ⟨v1, v2, v3⟩ := eRes_ok e6
          exact Or.inr ⟨v3, E', hts _ v1, hG.2.2.2.1 _ hE _ v2 (fun z => e7 z.symm)⟩
      · have fin : ∀ (ls' : Array Slot), lv_has ls' (mM m) (lvO A b q.2) → W p l e R s mid args below meth c H1 locs1 (cells + (hc h' - hc h)) (slots + (hs h' - hs h)) Q (F0 mid q.1 ls' []) := by
          intro ls' hl'
          exact K D ca b As p e R s mid args below meth c Q c0 s0 n0 A0 hC hEn u H1 locs1 _ _ ls' (Nat.le_trans h1 o2) (fun j hj => by rw [hag j (by omega)]; exact h2 j hj) ⟨b1, b2.weaken (fun _ _ _ z => hfr _ z), hS1, by omega, by omega⟩ h4 h5 (lv_mono hl' (fun z hz => lvO_ext hag hwf2 hz))
        show W p l e R s mid args below meth c H1 locs1 _ _ Q (F0 mid x.2.2.1 ls [.ref q9])
        rw [e4]
        split at hh
        · rename_i k hdk
          split at hh
          · rename_i hk2
            cases hh
            exact lv_astore_n (x := q9) hx hb hdk rfl h6 hk2.1 rfl (fun ls' hl' => fin ls' (lv_mono hl' (lvO_set1 hk2.2 (Or.inl rfl))))
          · cases hh
        · rename_i k hdk
          split at hh
          · rename_i hk2
            cases hh
            exact lv_astore (x := q9) hx hb hdk h6 hk2.1 rfl (fun ls' hl' => fin ls' (lv_mono hl' (lvO_set1 hk2.2 (Or.inl rfl))))
          · cases hh
        · cases hh
    · cases hh
end
end
section
/-! SOUNDNESS, by the fuel -/
section
variable {l : Launch} {L : Nat} {xs : Nat → Int32} {m : MD} {pc : Nat} {Ls st : List Value} {h : AH} {r : Res} {a : Act}
/-- what is left of a run behind an act -/
def KA (l : Launch) (L : Nat) (xs : Nat → Int32) (m : MD) (pc : Nat) (Ls : List Value) (h : AH) (r : Res) (a : Act) : Prop := match a with
  | .inl q => Sem l L xs m q.1 q.2.1 q.2.2.1 q.2.2.2 r ∧ hc q.2.2.2 ≤ hc (rH r) ∧ hs q.2.2.2 ≤ hs (rH r)
  | .inr (.inl q) => r = .inl q
  | .inr (.inr (.inl q)) => (mV q.1 < mV m → ∃ r1, Sem l L xs q.1 0 (entL q.2.1 (mM q.1)) [] h r1 ∧ RunOK h r1 ∧ hc (rH r1) ≤ hc (rH r) ∧ hs (rH r1) ≤ hs (rH r) ∧
      ((∃ v h', r1 = .inl (v, h') ∧ Sem l L xs m (pc + 3) Ls (v.toList ++ q.2.2) h' r) ∨ ∃ E h' z, r1 = .inr (E, h') ∧ hstep m pc Ls E = some z ∧ Sem l L xs m z.1 z.2 [] h' r))
  | .inr (.inr (.inr q)) => r = .inr q
theorem KA_go {pc' : Nat} {Ls' st' : List Value} {h' : AH} (e : actGo pc' Ls' st' h' = some a) (K : KA l L xs m pc Ls h r a) : Sem l L xs m pc' Ls' st' h' r ∧ hc h' ≤ hc (rH r) ∧ hs h' ≤ hs (rH r) := by
  cases e
  exact K
theorem s_ldIn {k : Fin 4} (hd : decode (mB m) pc = .ok (.iload_n k, 1)) (e : ldI k 1 pc Ls st h = some a) (K : KA l L xs m pc Ls h r a) : Sem l L xs m pc Ls st h r := by
  unfold ldI at e
  split at e
  · rename_i hv; exact r_iload_n hd hv (KA_go e K).1
  · cases e
theorem s_ldI {k : Nat} (hd : decode (mB m) pc = .ok (.iload k, 2)) (e : ldI k 2 pc Ls st h = some a) (K : KA l L xs m pc Ls h r a) : Sem l L xs m pc Ls st h r := by
  unfold ldI at e
  split at e
  · rename_i hv; exact r_iload hd hv (KA_go e K).1
  · cases e
theorem s_ldLn {k : Fin 4} (hd : decode (mB m) pc = .ok (.lload_n k, 1)) (e : ldL k 1 pc Ls st h = some a) (K : KA l L xs m pc Ls h r a) : Sem l L xs m pc Ls st h r := by
  unfold ldL at e
  split at e
  · rename_i hv; exact r_lload_n hd hv (KA_go e K).1
  · cases e
theorem s_ldLw {k : Nat} (hd : decode (mB m) pc = .ok (.lload k, 2)) (e : ldL k 2 pc Ls st h = some a) (K : KA l L xs m pc Ls h r a) : Sem l L xs m pc Ls st h r := by
  unfold ldL at e
  split at e
  · rename_i hv; exact r_lload hd hv (KA_go e K).1
  · cases e
theorem s_stLw {k : Nat} (hd : decode (mB m) pc = .ok (.lstore k, 2)) (e : stL (mM m) k 2 pc Ls st h = some a) (K : KA l L xs m pc Ls h r a) : Sem l L xs m pc Ls st h r := by
  unfold stL at e
  split at e
  · split at e
    · rename_i hc9; exact r_lstore hd hc9.1 hc9.2 (KA_go e K).1
    · cases e
  · cases e
theorem s_ldD {k : Nat} (hd : decode (mB m) pc = .ok (.dload k, 2)) (e : ldD k 2 pc Ls st h = some a) (K : KA l L xs m pc Ls h r a) : Sem l L xs m pc Ls st h r := by
  unfold ldD at e
  split at e
  · rename_i hv; exact r_dload hd hv (KA_go e K).1
  · cases e
theorem s_ldAn {k : Fin 4} (hd : decode (mB m) pc = .ok (.aload_n k, 1)) (e : ldA k 1 pc Ls st h = some a) (K : KA l L xs m pc Ls h r a) : Sem l L xs m pc Ls st h r := by
  unfold ldA at e
  split at e
  · rename_i hv; exact r_aload_n hd hv (KA_go e K).1
  · rename_i hv; exact r_sload_n hd hv (KA_go e K).1
  · cases e
theorem s_ldA {k : Nat} (hd : decode (mB m) pc = .ok (.aload k, 2)) (e : ldA k 2 pc Ls st h = some a) (K : KA l L xs m pc Ls h r a) : Sem l L xs m pc Ls st h r := by
  unfold ldA at e
  split at e
  · rename_i hv; exact r_aload hd hv (KA_go e K).1
  · rename_i hv; exact r_sload hd hv (KA_go e K).1
  · cases e
theorem s_stIn {k : Fin 4} (hd : decode (mB m) pc = .ok (.istore_n k, 1)) (e : stI (mM m) k 1 pc Ls st h = some a) (K : KA l L xs m pc Ls h r a) : Sem l L xs m pc Ls st h r := by
  unfold stI at e
  split at e
  · split at e
    · rename_i hc9; exact r_istore_n hd hc9.1 hc9.2 (KA_go e K).1
    · cases e
  · cases e
theorem s_stI {k : Nat} (hd : decode (mB m) pc = .ok (.istore k, 2)) (e : stI (mM m) k 2 pc Ls st h = some a) (K : KA l L xs m pc Ls h r a) : Sem l L xs m pc Ls st h r := by
  unfold stI at e
  split at e
  · split at e
    · rename_i hc9; exact r_istore hd hc9.1 hc9.2 (KA_go e K).1
    · cases e
  · cases e
theorem s_stAn {k : Fin 4} (hd : decode (mB m) pc = .ok (.astore_n k, 1)) (e : stA (mM m) k 1 pc Ls st h = some a) (K : KA l L xs m pc Ls h r a) : Sem l L xs m pc Ls st h r := by
  unfold stA at e
  split at e
  · split at e
    · rename_i hc9; exact r_astore_n hd hc9.1 hc9.2 (KA_go e K).1
    · cases e
  · cases e
theorem s_stA {k : Nat} (hd : decode (mB m) pc = .ok (.astore k, 2)) (e : stA (mM m) k 2 pc Ls st h = some a) (K : KA l L xs m pc Ls h r a) : Sem l L xs m pc Ls st h r := by
  unfold stA at e
  split at e
  · split at e
    · rename_i hc9; exact r_astore hd hc9.1 hc9.2 (KA_go e K).1
    · cases e
  · cases e
theorem s_stLn {k : Fin 4} (hd : decode (mB m) pc = .ok (.lstore_n k, 1)) (e : stL (mM m) k 1 pc Ls st h = some a) (K : KA l L xs m pc Ls h r a) : Sem l L xs m pc Ls st h r := by
  unfold stL at e
  split at e
  · split at e
    · rename_i hc9; exact r_lstore_n hd hc9.1 hc9.2 (KA_go e K).1
    · cases e
  · cases e
theorem s_stD {k : Nat} (hd : decode (mB m) pc = .ok (.dstore k, 2)) (e : stD (mM m) k 2 pc Ls st h = some a) (K : KA l L xs m pc Ls h r a) : Sem l L xs m pc Ls st h r := by
  unfold stD at e
  split at e
  · split at e
    · rename_i hc9; exact r_dstore hd hc9.1 hc9.2 (KA_go e K).1
    · cases e
  · cases e
theorem s_getF {i : Nat} (hS : WFl (hn h) st) (hd : decode (mB m) pc = .ok (.getfield i, 3)) (e : getF (mC m) i pc Ls st h = some a) (K : KA l L xs m pc Ls h r a) : Sem l L xs m pc Ls st h r := by
  unfold getF at e
  split at e
  · rename_i hf
    rw [WFl_cons] at hS
    split at e
    · rename_i hk
      split at e
      · rename_i hr
        split at e
        · rename_i hj; exact r_getR hd hf (hS.1 _ rfl) hk hr hj (KA_go e K).1
        · cases e
      · rename_i hr; exact r_getI hd hf (hS.1 _ rfl) hk (Bool.eq_false_iff.mpr hr) (KA_go e K).1
    · cases e
  · cases e
theorem s_putF {i : Nat} (hS : WFl (hn h) st) (hd : decode (mB m) pc = .ok (.putfield i, 3)) (e : putF m i pc Ls st h = some a) (K : KA l L xs m pc Ls h r a) : Sem l L xs m pc Ls st h r := by
  unfold putF at e
  split at e
  · rename_i hf
    rw [WFl_cons, WFl_cons] at hS
    split at e
    · rename_i hk; exact r_putI hd hf (hS.2.1 _ rfl) hk.1 hk.2.2 hk.2.1 (KA_go e K).1
    · cases e
  · rename_i hf
    rw [WFl_cons, WFl_cons] at hS
    split at e
    · rename_i hk; exact r_putR hd hf (hS.2.1 _ rfl) hk.1 hk.2.2 hk.2.1 (KA_go e K).1
    · cases e
  · cases e
theorem s_iald (hS : WFl (hn h) st) (hd : decode (mB m) pc = .ok (.iaload, 1)) (e : iald L xs (mC m == 8) pc Ls st h = some a) (K : KA l L xs m pc Ls h r a) : Sem l L xs m pc Ls st h r := by
  unfold iald at e
  split at e
  · rw [WFl_cons, WFl_cons] at hS
    split at e
    · rename_i hk; exact r_iald hd (hS.2.1 _ rfl) hk.1 hk.2 (KA_go e K).1
    · cases e
  · split at e
    · rename_i hk; exact r_sald hd (beq_iff_eq.mp hk.1) hk.2 (KA_go e K).1
    · cases e
  · cases e
theorem s_alen (hS : WFl (hn h) st) (hd : decode (mB m) pc = .ok (.arraylength, 1)) (e : alen L (mC m == 8) pc Ls st h = some a) (K : KA l L xs m pc Ls h r a) : Sem l L xs m pc Ls st h r := by
  unfold alen at e
  split at e
  · rw [WFl_cons] at hS
    split at e
    · rename_i hk; exact r_alen hd (hS.1 _ rfl) hk (KA_go e K).1
    · cases e
  · split at e
    · rename_i hk; exact r_slen hd (beq_iff_eq.mp hk) (KA_go e K).1
    · cases e
  · cases e
theorem s_iast (hS : WFl (hn h) st) (hd : decode (mB m) pc = .ok (.iastore, 1)) (e : iast pc Ls st h = some a) (K : KA l L xs m pc Ls h r a) : Sem l L xs m pc Ls st h r := by
  unfold iast at e
  split at e
  · rw [WFl_cons, WFl_cons, WFl_cons] at hS
    split at e
    · rename_i hk; exact r_iast hd (hS.2.2.1 _ rfl) hk.1 hk.2 (KA_go e K).1
    · cases e
  · cases e
theorem s_lald (hS : WFl (hn h) st) (hd : decode (mB m) pc = .ok (.laload, 1)) (e : lald pc Ls st h = some a) (K : KA l L xs m pc Ls h r a) : Sem l L xs m pc Ls st h r := by
  unfold lald at e
  split at e
  · rw [WFl_cons, WFl_cons] at hS
    split at e
    · rename_i hk; exact r_lald hd (hS.2.1 _ rfl) hk.1 hk.2 (KA_go e K).1
    · cases e
  · cases e
theorem s_last (hS : WFl (hn h) st) (hd : decode (mB m) pc = .ok (.lastore, 1)) (e : last pc Ls st h = some a) (K : KA l L xs m pc Ls h r a) : Sem l L xs m pc Ls st h r := by
  unfold last at e
  split at e
  · rw [WFl_cons, WFl_cons, WFl_cons] at hS
    split at e
    · rename_i hk; exact r_last hd (hS.2.2.1 _ rfl) hk.1 hk.2 (KA_go e K).1
    · cases e
  · cases e
theorem s_aald (hS : WFl (hn h) st) (hd : decode (mB m) pc = .ok (.aaload, 1)) (e : aald pc Ls st h = some a) (K : KA l L xs m pc Ls h r a) : Sem l L xs m pc Ls st h r := by
  unfold aald at e
  split at e
  · rw [WFl_cons, WFl_cons] at hS
    split at e
    · rename_i hk
      split at e
      · rename_i hj; exact r_aald hd (hS.2.1 _ rfl) hk.1 hk.2 hj (KA_go e K).1
      · cases e
    · cases e
  · cases e
theorem s_aast (hS : WFl (hn h) st) (hd : decode (mB m) pc = .ok (.aastore, 1)) (e : aast pc Ls st h = some a) (K : KA l L xs m pc Ls h r a) : Sem l L xs m pc Ls st h r := by
  unfold aast at e
  split at e
  · rw [WFl_cons, WFl_cons, WFl_cons] at hS
    split at e
    · rename_i hk; exact r_aast hd (hS.2.2.1 _ rfl) (hS.1 _ rfl) hk.1 hk.2.1 hk.2.2 (KA_go e K).1
    · cases e
  · cases e
theorem Sem.thr {E : String} (ht : thrOK m pc E) : Sem l L xs m pc Ls [] h (.inr (E, bump h)) := by
  intro D ca b As p e R s mid args below meth c Q c0 s0 n0 A0 hC hE A H locs cells slots ls h1 h2 h3 h4 h5 h6
  obtain ⟨hx, hb, hr, hml, hown, hts, hlk, hnm9, htab, hRf, hRl, hK9, hG, hZ, hA9, hlaw, hcl9, hst9⟩ := id hC
  exact hE.2 A H locs cells slots pc ls E h rfl h2 h3 ht (by rw [hml]; exact h6.1)
theorem Sem.ret {v : Option Value} (hv : retOK (mB m) (mR m) pc v) : Sem l L xs m pc Ls v.toList h (.inl (v, h)) := by
  intro D ca b As p e R s mid args below meth c Q c0 s0 n0 A0 hC hE A H locs cells slots ls h1 h2 h3 h4 h5 h6
  have e9 : v.toList.map (tv A b) = v.toList := by
    cases v with
    | none => rfl
    | some w => cases w <;> first | rfl | exact hv.elim
  rw [e9]
  exact hE.1 A H locs cells slots pc ls v h rfl h2 h3 hv
theorem s_newO {i : Nat} (hL : WFl (hn h) Ls) (hS : WFl (hn h) st) (hw : WFh h) (hd : decode (mB m) pc = .ok (.new i, 3)) (e : newO m i pc Ls st h = some a) (K : KA l L xs m pc Ls h r a) : Sem l L xs m pc Ls st h r := by
  unfold newO at e
  split at e
  · rename_i hk; exact r_new hd hk hw hL hS (KA_go e K).2 (KA_go e K).1
  · split at e
    · rename_i is d3 d4
      split at e
      · rename_i ic d6 d9
        split at e
        · rename_i E hE
          split at e
          · rename_i hc9
            obtain ⟨c1, c2, c3, c4, c5⟩ := hc9
            cases e
            have hr : r = .inr (E, bump h) := K
            subst hr; subst c5
            obtain ⟨q, hq, hq2⟩ := List.any_eq_true.mp c2
            rw [beq_iff_eq] at hq2
            exact Sem.thr ⟨i, is, ic, q.2, hd, d3, Or.inl ⟨d4, d6, d9⟩, hE, by rw [← hq2]; exact hq, c1, c3, c4⟩
          · cases e
        · cases e
      · cases e
    · rename_i is d3 d4
      split at e
      · rename_i ic d6 d9
        split at e
        · rename_i E hE
          split at e
          · rename_i hc9
            obtain ⟨c1, c2, c3, c4, c5⟩ := hc9
            cases e
            have hr : r = .inr (E, bump h) := K
            subst hr; subst c5
            obtain ⟨q, hq, hq2⟩ := List.any_eq_true.mp c2
            rw [beq_iff_eq] at hq2
            exact Sem.thr ⟨i, is, ic, q.2, hd, d3, Or.inr ⟨d4, d6, d9⟩, hE, by rw [← hq2]; exact hq, c1, c3, c4⟩
          · cases e
        · cases e
      · cases e
    · cases e
theorem s_newA {t : ArrayType} (hL : WFl (hn h) Ls) (hS : WFl (hn h) st) (hw : WFh h) (hd : decode (mB m) pc = .ok (.newarray t, 2)) (e : newA t pc Ls st h = some a) (K : KA l L xs m pc Ls h r a) : Sem l L xs m pc Ls st h r := by
  unfold newA at e
  split at e
  · rw [WFl_cons] at hS
    split at e
    · rename_i hc9; exact r_newI hd hc9.1 hc9.2 hw hL hS.2 (KA_go e K).2 (KA_go e K).1
    · cases e
  · rw [WFl_cons] at hS
    split at e
    · rename_i hc9; exact r_newL hd hc9.1 hc9.2 hw hL hS.2 (KA_go e K).2 (KA_go e K).1
    · cases e
  · cases e
theorem s_newQ {i : Nat} (hL : WFl (hn h) Ls) (hS : WFl (hn h) st) (hw : WFh h) (hd : decode (mB m) pc = .ok (.anewarray i, 3)) (e : newQ m i pc Ls st h = some a) (K : KA l L xs m pc Ls h r a) : Sem l L xs m pc Ls st h r := by
  unfold newQ at e
  split at e
  · rename_i hk
    rw [WFl_cons] at hS
    split at e
    · rename_i hc9; exact r_newQ hd hk hc9.1 hc9.2 hw hL hS.2 (KA_go e K).2 (KA_go e K).1
    · cases e
  · cases e
theorem s_invS {i : Nat} (hl : l.stackTraces = false) (hL : WFl (hn h) Ls) (hS : WFl (hn h) st) (hd : decode (mB m) pc = .ok (.invokestatic i, 3)) (e : invS m i pc Ls st h = some a) (K : KA l L xs m pc Ls h r a) : Sem l L xs m pc Ls st h r := by
  unfold invS at e
  split at e
  · rename_i y mode n hm
    split at e
    · rename_i h8
      subst h8
      unfold copy5 at e
      split at e
      · rw [WFl_cons, WFl_cons, WFl_cons, WFl_cons, WFl_cons] at hS
        split at e
        · rename_i hc9
          obtain ⟨c1, c2, c3, c4, c5, c6, c7, c8, c9⟩ := hc9
          exact r_copy hd (hS.2.2.2.2.1 _ rfl) (hS.2.2.1 _ rfl) c1 c2 c3 c4 c5 c6 c7 c8 c9 (mres8 hm) (KA_go e K).1
        · cases e
      · cases e
    · split at e
      · rename_i h9
        subst h9
        unfold min9 at e
        split at e
        · split at e
          · rename_i hc9; exact r_min hd (KA_go e K).2 hc9.1 hc9.2 (mres9 hm) (KA_go e K).1
          · cases e
        · cases e
      · unfold clS at e
        split at e
        · rename_i hc9
          split at e
          · rename_i hmd
            cases e
            obtain ⟨r1, k1, k2, k3, k4, k5⟩ := K hc9.1
            rcases k5 with ⟨v, h', rfl, k6⟩ | ⟨E, h', z, rfl, k6, k7⟩
            · exact r_callS hl hd hmd hm hc9.1 hc9.2.1 hc9.2.2.1 hc9.2.2.2 hL hS k1 k2 ⟨k3, k4⟩ k6
            · have := (hstep_of k6).1
              unfold isV at this
              rw [hd] at this
              cases this
          · cases e
        · cases e
  · cases e
theorem s_invV {i : Nat} (hl : l.stackTraces = false) (hL : WFl (hn h) Ls) (hS : WFl (hn h) st) (hd : decode (mB m) pc = .ok (.invokevirtual i, 3)) (e : invV m i st h = some a) (K : KA l L xs m pc Ls h r a) : Sem l L xs m pc Ls st h r := by
  unfold invV at e
  split at e
  · rename_i y mode n hm
    split at e
    · rename_i hmd
      unfold clV at e
      split at e
      · rename_i a0 rest0 hdr
        split at e
        · rename_i hc9
          obtain ⟨c1, c2, c3, c4, c5, c6⟩ := hc9
          cases e
          obtain ⟨r1, k1, k2, k3, k4, k5⟩ := K c1
          rcases k5 with ⟨v, h', rfl, k6⟩ | ⟨E, h', z, rfl, k6, k7⟩
          · exact r_callV hl hd hmd hm hdr c1 c2 c3 c4 c5 c6 hL hS k1 k2 ⟨k3, k4⟩ k6
          · have hE : E ∈ exL := by
              have k6 := k6
              replace k6 := (hstep_of k6).2
              unfold hstep0 at k6
              split at k6
              · cases k6
              · rename_i hp hfd
                obtain ⟨pre, x, suf, e1, e2, e3, e4, e5⟩ := hfind_spec _ hfd
                exact (eRes_ok e3).2.1
            exact r_callX hl hd hmd hm hdr c1 c2 c3 c4 c5 c6 hL hS k1 hE k2 ⟨k3, k4⟩ k6 k7
        · cases e
      · cases e
    · cases e
  · cases e
theorem s_invI {i : Nat} (hl : l.stackTraces = false) (hL : WFl (hn h) Ls) (hS : WFl (hn h) st) (hd : decode (mB m) pc = .ok (.invokespecial i, 3)) (e : invI m i pc Ls st h = some a) (K : KA l L xs m pc Ls h r a) : Sem l L xs m pc Ls st h r := by
  unfold invI at e
  split at e
  · rename_i y mode n hm
    split at e
    · rename_i h7
      subst h7
      split at e
      · split at e
        · rename_i hc9; exact r_objInit hd hc9.1 hc9.2 (mres7 hm) (KA_go e K).1
        · cases e
      · cases e
    · split at e
      · rename_i hmd
        unfold clV at e
        split at e
        · rename_i a0 rest0 hdr
          split at e
          · rename_i hc9
            obtain ⟨c1, c2, c3, c4, c5, c6⟩ := hc9
            cases e
            obtain ⟨r1, k1, k2, k3, k4, k5⟩ := K c1
            rcases k5 with ⟨v, h', rfl, k6⟩ | ⟨E, h', z, rfl, k6, k7⟩
            · exact r_callI hl hd hmd hm hdr c1 c2 c3 c4 hL hS k1 k2 ⟨k3, k4⟩ k6
            · have := (hstep_of k6).1
              unfold isV at this
              rw [hd] at this
              cases this
          · cases e
        · cases e
      · cases e
  · cases e
theorem s_retI (hd : decode (mB m) pc = .ok (.ireturn, 1)) (e : retI m st h = some a) (K : KA l L xs m pc Ls h r a) : Sem l L xs m pc Ls st h r := by
  unfold retI at e
  split at e
  · split at e
    · rename_i hc9
      cases e
      have hr : r = _ := K
      subst hr
      exact Sem.ret (v := some (.int _)) ⟨hd, hc9⟩
    · cases e
  · cases e
set_option maxHeartbeats 4000000 in
theorem stepI_sound {i : Instr} {len : Nat} (hl : l.stackTraces = false) (hL : WFl (hn h) Ls) (hS : WFl (hn h) st) (hw : WFh h) (hd : decode (mB m) pc = .ok (i, len)) (e : stepI L xs m pc Ls st h i len = some a) (K : KA l L xs m pc Ls h r a) : Sem l L xs m pc Ls st h r := by
  unfold stepI at e
  split at e
  · exact s_ldIn hd e K
  · exact s_ldI hd e K
  · exact s_ldAn hd e K
  · exact s_ldA hd e K
  · exact s_ldLn hd e K
  · exact s_ldLw hd e K
  · exact s_ldD hd e K
  · exact s_stIn hd e K
  · exact s_stI hd e K
  · exact s_stAn hd e K
  · exact s_stA hd e K
  · exact s_stLn hd e K
  · exact s_stLw hd e K
  · exact s_stD hd e K
  · exact r_iconst hd (KA_go e K).1
  · exact r_bipush hd (KA_go e K).1
  · exact r_sipush hd (KA_go e K).1
  · split at e
    · rename_i hk; subst hk; exact r_dconst1 hd (KA_go e K).1
    · split at e
      · rename_i hk0; subst hk0; exact r_dconst0 hd (KA_go e K).1
      · cases e
  · split at e
    · rename_i hk; exact r_ldc hd hk (KA_go e K).1
    · cases e
  · split at e
    · rename_i hk; exact r_ldcw hd hk (KA_go e K).1
    · cases e
  · split at e
    · rename_i hk; exact r_ldc2 hd hk (KA_go e K).1
    · cases e
  · exact s_getF hS hd e K
  · exact s_putF hS hd e K
  · exact s_iald hS hd e K
  · exact s_iast hS hd e K
  · exact s_lald hS hd e K
  · exact s_last hS hd e K
  · exact s_aald hS hd e K
  · exact s_aast hS hd e K
  · exact s_alen hS hd e K
  · unfold op2 at e; split at e
    · exact r_iadd hd (KA_go e K).1
    · cases e
  · unfold op2 at e; split at e
    · exact r_isub hd (KA_go e K).1
    · cases e
  · unfold op2 at e; split at e
    · exact r_imul hd (KA_go e K).1
    · cases e
  · unfold op2 at e; split at e
    · exact r_iand hd (KA_go e K).1
    · cases e
  · unfold op2 at e; split at e
    · exact r_ior hd (KA_go e K).1
    · cases e
  · unfold op2 at e; split at e
    · exact r_ixor hd (KA_go e K).1
    · cases e
  · unfold op2 at e; split at e
    · exact r_ishl hd (KA_go e K).1
    · cases e
  · unfold op2 at e; split at e
    · exact r_ishr hd (KA_go e K).1
    · cases e
  · unfold op2 at e; split at e
    · exact r_iushr hd (KA_go e K).1
    · cases e
  · split at e
    · split at e
      · cases e
      · rename_i hy; exact r_idiv hd hy (KA_go e K).1
    · cases e
  · split at e
    · split at e
      · cases e
      · rename_i hy; exact r_irem hd hy (KA_go e K).1
    · cases e
  · split at e
    · exact r_ineg hd (KA_go e K).1
    · cases e
  · unfold opL at e; split at e
    · exact r_ladd hd (KA_go e K).1
    · cases e
  · unfold opL at e; split at e
    · exact r_lmul hd (KA_go e K).1
    · cases e
  · split at e
    · exact r_i2l hd (KA_go e K).1
    · cases e
  · split at e
    · exact r_i2d hd (KA_go e K).1
    · cases e
  · split at e
    · exact r_lcmp hd (KA_go e K).1
    · cases e
  · split at e
    · exact r_dcmp hd (KA_go e K).1
    · cases e
  · split at e
    · split at e
      · rename_i hv; exact r_ddiv hd hv (KA_go e K).1
      · cases e
    · cases e
  · split at e
    · split at e
      · rename_i hv; exact r_dup hd hv (KA_go e K).1
      · cases e
    · cases e
  · split at e
    · split at e
      · rename_i hv; exact r_dup2 hd hv.1 hv.2 (KA_go e K).1
      · cases e
    · cases e
  · split at e
    · split at e
      · rename_i hv; exact r_pop hd hv (KA_go e K).1
      · cases e
    · cases e
  · split at e
    · rename_i hv
      split at e
      · rename_i hc9; exact r_iinc hd hv hc9.1 hc9.2 (KA_go e K).1
      · cases e
    · cases e
  · split at e
    · split at e
      · rename_i hj; exact r_if hd hj (KA_go e K).1
      · cases e
    · cases e
  · split at e
    · split at e
      · rename_i hj; exact r_icmp hd hj (KA_go e K).1
      · cases e
    · cases e
  · split at e
    · rename_i hj; exact r_goto hd hj (KA_go e K).1
    · cases e
  · split at e
    · split at e
      · rename_i ho
        split at e
        · rename_i hj; exact r_tsw hd ho hj (KA_go e K).1
        · cases e
      · cases e
    · cases e
  · split at e
    · split at e
      · rename_i hj; exact r_lsw hd hj.1 hj.2 (KA_go e K).1
      · cases e
    · cases e
  · exact s_newO hL hS hw hd e K
  · exact s_newA hL hS hw hd e K
  · exact s_newQ hL hS hw hd e K
  · exact s_invS hl hL hS hd e K
  · exact s_invV hl hL hS hd e K
  · exact s_invI hl hL hS hd e K
  · exact s_retI hd e K
  · split at e
    · split at e
      · rename_i hc9; cases e
        have hr : r = _ := K
        subst hr
        exact Sem.ret (v := some (.long _)) ⟨hd, hc9⟩
      · cases e
    · cases e
  · split at e
    · split at e
      · rename_i hc9; cases e
        have hr : r = _ := K
        subst hr
        exact Sem.ret (v := some (.double _)) ⟨hd, hc9⟩
      · cases e
    · cases e
  · split at e
    · rename_i hc9
      obtain ⟨c1, c2⟩ := hc9
      cases e
      have hr : r = _ := K
      subst hr; subst c2
      exact Sem.ret (v := none) ⟨hd, c1⟩
    · cases e
  · cases e
theorem sound (hl : l.stackTraces = false) : ∀ (n : Nat) (m : MD) (pc : Nat) (Ls st : List Value) (h : AH) (r : Res), WFl (hn h) Ls → WFl (hn h) st → WFh h → run L xs n m pc Ls st h = some r → Sem l L xs m pc Ls st h r
  | 0, _, _, _, _, _, _, _, _, _, e => by cases e
  | n + 1, m, pc, Ls, st, h, r, hL, hS, hw, e => by
    have hro := run_ok (L := L) (xs := xs) (n + 1) m pc Ls st h r hL hS hw e
    unfold run at e
    cases hs9 : stp L xs m pc Ls st h with
    | none => rw [hs9] at e; cases e
    | some a =>
      rw [hs9] at e
      have ho := stp_ok hL hS hw hs9
      have key : KA l L xs m pc Ls h r a := by
        rcases a with q | q | q | q
        · obtain ⟨o1, o2, o3, o4, o5, o6⟩ := ho
          have e : run L xs n m q.1 q.2.1 q.2.2.1 q.2.2.2 = some r := e
          have h9 := run_ok (L := L) (xs := xs) n _ _ _ _ _ _ o1 o2 o3 e
          exact ⟨sound hl n _ _ _ _ _ _ o1 o2 o3 e, h9.2.2.1, h9.2.2.2.1⟩
        · cases e; rfl
        · obtain ⟨o1, o2⟩ := ho
          intro hlev
          replace e : kont (run L xs n q.1 0 (entL q.2.1 (mM q.1)) [] h) (fun v h' => run L xs n m (pc + 3) Ls (v.toList ++ q.2.2) h') (fun E h' => kx (hstep m pc Ls E) (fun pc' Ls' => run L xs n m pc' Ls' [] h')) = some r := e
          cases hr1 : run L xs n q.1 0 (entL q.2.1 (mM q.1)) [] h with
          | none => rw [hr1] at e; cases e
          | some w =>
            rw [hr1] at e
            have h9 := run_ok (L := L) (xs := xs) n _ _ _ _ _ _ (WFl_entL o1) WFl_nil hw hr1
            have p2 : hn h ≤ hn (rH w) := h9.2.1
            have hs1 := sound hl n _ _ _ _ _ _ (WFl_entL o1) WFl_nil hw hr1
            refine ⟨w, hs1, h9, ?_⟩
            rcases w with ⟨v, g⟩ | ⟨E, g⟩
            · have e : run L xs n m (pc + 3) Ls (v.toList ++ q.2.2) g = some r := e
              have o3 : WFl (hn g) Ls := WFl_le hL p2
              have o4 : WFl (hn g) (v.toList ++ q.2.2) := WFl_app (vOK_wf (h9.2.2.2.2.1 _ rfl)) (WFl_le o2 p2)
              have h10 := run_ok (L := L) (xs := xs) n _ _ _ _ _ _ o3 o4 h9.1 e
              exact ⟨h10.2.2.1, h10.2.2.2.1, Or.inl ⟨v, g, rfl, sound hl n _ _ _ _ _ _ o3 o4 h9.1 e⟩⟩
            · cases hh : hstep m pc Ls E with
              | none => simp only [kont, hh, kx] at e; cases e
              | some z =>
                simp only [kont, hh, kx] at e
                have o3 : WFl (hn g) z.2 := WFl_le (hstep_ok hL hh) p2
                have h10 := run_ok (L := L) (xs := xs) n _ _ _ _ _ _ o3 WFl_nil h9.1 e
                exact ⟨h10.2.2.1, h10.2.2.2.1, Or.inr ⟨E, g, z, rfl, hh, sound hl n _ _ _ _ _ _ o3 WFl_nil h9.1 e⟩⟩
        · cases e; rfl
      unfold stp at hs9
      split at hs9
      · rename_i q hd
        exact stepI_sound hl hL hS hw (i := q.1) (len := q.2) hd hs9 key
      · cases hs9
end
end
section
/-- a call's outcome goes on -/
noncomputable def kn (L : Nat) (xs : Nat → Int32) (m : MD) (pc pc' : Nat) (Ls st : List Value) (r : Option Res) : Option Res := kont r (fun v h' => ev L xs m pc' Ls (v.toList ++ st) h') (fun E h' => kx (hstep m pc Ls E) (fun pc2 Ls2 => ev L xs m pc2 Ls2 [] h'))
/-! THE VALUE OF A RUN, an instruction at a time -/
section
variable {L : Nat} {xs : Nat → Int32} {m y : MD} {pc i n : Nat} {Ls st : List Value} {h : AH}
theorem ev_stp {pc' : Nat} {Ls' st' : List Value} {h' : AH} {I : Instr} {len : Nat} (hd : decode (mB m) pc = .ok (I, len)) (hs : stepI L xs m pc Ls st h I len = some (.inl (pc', Ls', st', h'))) : ev L xs m pc Ls st h = ev L xs m pc' Ls' st' h' :=
  ev_go L xs (q := (pc', Ls', st', h')) (by unfold stp; rw [hd]; exact hs)
theorem e_iload_n {k : Fin 4} {x : Int32} (hd : decode (mB m) pc = .ok (.iload_n k, 1)) (hv : Ls[(k : Nat)]? = some (.int x)) : ev L xs m pc Ls st h = ev L xs m (pc + 1) Ls (.int x :: st) h := ev_stp hd (by show ldI k 1 pc Ls st h = _; unfold ldI; rw [hv])
theorem e_iload {k : Nat} {x : Int32} (hd : decode (mB m) pc = .ok (.iload k, 2)) (hv : Ls[k]? = some (.int x)) : ev L xs m pc Ls st h = ev L xs m (pc + 2) Ls (.int x :: st) h := ev_stp hd (by show ldI k 2 pc Ls st h = _; unfold ldI; rw [hv])
theorem e_aload_n {k : Fin 4} {x : Nat} (hd : decode (mB m) pc = .ok (.aload_n k, 1)) (hv : Ls[(k : Nat)]? = some (.ref x)) : ev L xs m pc Ls st h = ev L xs m (pc + 1) Ls (.ref x :: st) h := ev_stp hd (by show ldA k 1 pc Ls st h = _; unfold ldA; rw [hv])
theorem e_aload {k : Nat} {x : Nat} (hd : decode (mB m) pc = .ok (.aload k, 2)) (hv : Ls[k]? = some (.ref x)) : ev L xs m pc Ls st h = ev L xs m (pc + 2) Ls (.ref x :: st) h := ev_stp hd (by show ldA k 2 pc Ls st h = _; unfold ldA; rw [hv])
theorem e_sload_n {k : Fin 4} {x : Nat} (hd : decode (mB m) pc = .ok (.aload_n k, 1)) (hv : Ls[(k : Nat)]? = some (.retAddr x)) : ev L xs m pc Ls st h = ev L xs m (pc + 1) Ls (.retAddr x :: st) h := ev_stp hd (by show ldA k 1 pc Ls st h = _; unfold ldA; rw [hv])
theorem e_lload_n {k : Fin 4} {x : Int64} (hd : decode (mB m) pc = .ok (.lload_n k, 1)) (hv : Ls[(k : Nat)]? = some (.long x)) : ev L xs m pc Ls st h = ev L xs m (pc + 1) Ls (.long x :: st) h := ev_stp hd (by show ldL k 1 pc Ls st h = _; unfold ldL; rw [hv])
theorem e_lload {k : Nat} {x : Int64} (hd : decode (mB m) pc = .ok (.lload k, 2)) (hv : Ls[k]? = some (.long x)) : ev L xs m pc Ls st h = ev L xs m (pc + 2) Ls (.long x :: st) h := ev_stp hd (by show ldL k 2 pc Ls st h = _; unfold ldL; rw [hv])
theorem e_lstore {k : Nat} {x : Int64} {Ls' : List Value} (hd : decode (mB m) pc = .ok (.lstore k, 2)) (hl : (Ls.set k (.long x)).set (k + 1) .null = Ls') (hk : k + 1 < mM m) (hc : catOK Ls k = true) : ev L xs m pc Ls (.long x :: st) h = ev L xs m (pc + 2) Ls' st h := ev_stp hd (by show stL (mM m) k 2 pc Ls (.long x :: st) h = _; unfold stL; (try simp only); rw [if_pos ⟨hk, hc⟩, hl])
theorem e_dconst0 (hd : decode (mB m) pc = .ok (.dconst 0, 1)) : ev L xs m pc Ls st h = ev L xs m (pc + 1) Ls (.double FP.dconst0 :: st) h := ev_stp hd rfl
theorem e_dload {k : Nat} {x : UInt64} (hd : decode (mB m) pc = .ok (.dload k, 2)) (hv : Ls[k]? = some (.double x)) : ev L xs m pc Ls st h = ev L xs m (pc + 2) Ls (.double x :: st) h := ev_stp hd (by show ldD k 2 pc Ls st h = _; unfold ldD; rw [hv])
theorem e_istore_n {k : Fin 4} {x : Int32} {Ls' : List Value} (hd : decode (mB m) pc = .ok (.istore_n k, 1)) (hl : Ls.set k (.int x) = Ls') (hk : (k : Nat) < mM m) (hc : catOK Ls k = true) : ev L xs m pc Ls (.int x :: st) h = ev L xs m (pc + 1) Ls' st h := ev_stp hd (by show stI (mM m) k 1 pc Ls (.int x :: st) h = _; unfold stI; (try simp only); rw [if_pos ⟨hk, hc⟩, hl])
theorem e_istore {k : Nat} {x : Int32} {Ls' : List Value} (hd : decode (mB m) pc = .ok (.istore k, 2)) (hl : Ls.set k (.int x) = Ls') (hk : k < mM m) (hc : catOK Ls k = true) : ev L xs m pc Ls (.int x :: st) h = ev L xs m (pc + 2) Ls' st h := ev_stp hd (by show stI (mM m) k 2 pc Ls (.int x :: st) h = _; unfold stI; (try simp only); rw [if_pos ⟨hk, hc⟩, hl])
theorem e_astore_n {k : Fin 4} {x : Nat} {Ls' : List Value} (hd : decode (mB m) pc = .ok (.astore_n k, 1)) (hl : Ls.set k (.ref x) = Ls') (hk : (k : Nat) < mM m) (hc : catOK Ls k = true) : ev L xs m pc Ls (.ref x :: st) h = ev L xs m (pc + 1) Ls' st h := ev_stp hd (by show stA (mM m) k 1 pc Ls (.ref x :: st) h = _; unfold stA; (try simp only); rw [if_pos ⟨hk, hc⟩, hl])
theorem e_astore {k : Nat} {x : Nat} {Ls' : List Value} (hd : decode (mB m) pc = .ok (.astore k, 2)) (hl : Ls.set k (.ref x) = Ls') (hk : k < mM m) (hc : catOK Ls k = true) : ev L xs m pc Ls (.ref x :: st) h = ev L xs m (pc + 2) Ls' st h := ev_stp hd (by show stA (mM m) k 2 pc Ls (.ref x :: st) h = _; unfold stA; (try simp only); rw [if_pos ⟨hk, hc⟩, hl])
theorem e_lstore_n {k : Fin 4} {x : Int64} {Ls' : List Value} (hd : decode (mB m) pc = .ok (.lstore_n k, 1)) (hl : (Ls.set k (.long x)).set (k + 1) .null = Ls') (hk : (k : Nat) + 1 < mM m) (hc : catOK Ls k = true) : ev L xs m pc Ls (.long x :: st) h = ev L xs m (pc + 1) Ls' st h := ev_stp hd (by show stL (mM m) k 1 pc Ls (.long x :: st) h = _; unfold stL; (try simp only); rw [if_pos ⟨hk, hc⟩, hl])
theorem e_dstore {k : Nat} {x : UInt64} {Ls' : List Value} (hd : decode (mB m) pc = .ok (.dstore k, 2)) (hl : (Ls.set k (.double x)).set (k + 1) .null = Ls') (hk : k + 1 < mM m) (hc : catOK Ls k = true) : ev L xs m pc Ls (.double x :: st) h = ev L xs m (pc + 2) Ls' st h := ev_stp hd (by show stD (mM m) k 2 pc Ls (.double x :: st) h = _; unfold stD; (try simp only); rw [if_pos ⟨hk, hc⟩, hl])
theorem e_iinc {k : Nat} {c : Int} {x v : Int32} {Ls' : List Value} (hd : decode (mB m) pc = .ok (.iinc k c, 3)) (hv : Ls[k]? = some (.int x)) (hw : Int32.ofInt c = v) (hl : Ls.set k (.int (x + v)) = Ls') (hk : k < mM m) (hc : catOK Ls k = true) : ev L xs m pc Ls st h = ev L xs m (pc + 3) Ls' st h := ev_stp hd (by subst hw; show (match Ls[k]? with | some (.int x) => _ | _ => _) = _; rw [hv]; (try simp only); rw [if_pos ⟨hk, hc⟩, hl])
theorem e_iconst {c : Int} {v : Int32} (hd : decode (mB m) pc = .ok (.iconst c, 1)) (hv : Int32.ofInt c = v) : ev L xs m pc Ls st h = ev L xs m (pc + 1) Ls (.int v :: st) h := ev_stp hd (by subst hv; rfl)
theorem e_bipush {c : Int} {v : Int32} (hd : decode (mB m) pc = .ok (.bipush c, 2)) (hv : (Int8.ofInt c).toInt32 = v) : ev L xs m pc Ls st h = ev L xs m (pc + 2) Ls (.int v :: st) h := ev_stp hd (by subst hv; rfl)
theorem e_sipush {c : Int} {v : Int32} (hd : decode (mB m) pc = .ok (.sipush c, 3)) (hv : (Int16.ofInt c).toInt32 = v) : ev L xs m pc Ls st h = ev L xs m (pc + 3) Ls (.int v :: st) h := ev_stp hd (by subst hv; rfl)
theorem e_dconst1 (hd : decode (mB m) pc = .ok (.dconst 1, 1)) : ev L xs m pc Ls st h = ev L xs m (pc + 1) Ls (.double FP.dconst1 :: st) h := ev_stp hd rfl
theorem e_ldc {j : Nat} {v : Int32} (hd : decode (mB m) pc = .ok (.ldc j, 2)) (hi : iRes (mC m) j = some v) : ev L xs m pc Ls st h = ev L xs m (pc + 2) Ls (.int v :: st) h := ev_stp hd (by show (match iRes (mC m) j with | some v => _ | none => _) = _; rw [hi])
theorem e_ldcw {j : Nat} {v : Int32} (hd : decode (mB m) pc = .ok (.ldc_w j, 3)) (hi : iRes (mC m) j = some v) : ev L xs m pc Ls st h = ev L xs m (pc + 3) Ls (.int v :: st) h := ev_stp hd (by show (match iRes (mC m) j with | some v => _ | none => _) = _; rw [hi])
theorem e_ldc2 {j : Nat} {v : Int64} (hd : decode (mB m) pc = .ok (.ldc2_w j, 3)) (hi : lRes (mC m) j = some v) : ev L xs m pc Ls st h = ev L xs m (pc + 3) Ls (.long v :: st) h := ev_stp hd (by show (match lRes (mC m) j with | some v => _ | none => _) = _; rw [hi])
theorem e_getI {a k f F : Nat} (hd : decode (mB m) pc = .ok (.getfield i, 3)) (hf : fRes (mC m) i = some (k, f)) (hr : isRf k f = false) (hF : 16 * k + f = F) (hk : hK h a = k) : ev L xs m pc Ls (.ref a :: st) h = ev L xs m (pc + 3) Ls (.int (hI h F a) :: st) h :=
  ev_stp hd (by show getF (mC m) i pc Ls (.ref a :: st) h = _; subst hF; unfold getF; rw [hf]; (try simp only); rw [if_pos hk, hr]; rfl)
theorem e_getR {a k f F : Nat} (hd : decode (mB m) pc = .ok (.getfield i, 3)) (hf : fRes (mC m) i = some (k, f)) (hr : isRf k f = true) (hF : 16 * k + f = F) (hk : hK h a = k) (hj : (hR h F a).isSome = true) : ev L xs m pc Ls (.ref a :: st) h = ev L xs m (pc + 3) Ls (.ref ((hR h F a).getD 0) :: st) h := by
  obtain ⟨j, hj⟩ := Option.isSome_iff_exists.mp hj
  rw [hj]
  exact ev_stp hd (by show getF (mC m) i pc Ls (.ref a :: st) h = _; subst hF; unfold getF; rw [hf]; (try simp only); rw [if_pos hk, hr, hj]; rfl)
theorem e_putI {a k f F : Nat} {v : Int32} (hd : decode (mB m) pc = .ok (.putfield i, 3)) (hf : fRes (mC m) i = some (k, f)) (hr : isRf k f = false) (hp : putOK m k f = true) (hF : 16 * k + f = F) (hk : hK h a = k) : ev L xs m pc Ls (.int v :: .ref a :: st) h = ev L xs m (pc + 3) Ls st (sI h F a v) :=
  ev_stp hd (by show putF m i pc Ls (.int v :: .ref a :: st) h = _; subst hF; unfold putF; rw [hf]; (try simp only); rw [if_pos ⟨hk, hr, hp⟩])
theorem e_putR {a v k f F : Nat} (hd : decode (mB m) pc = .ok (.putfield i, 3)) (hf : fRes (mC m) i = some (k, f)) (hr : isRf k f = true) (hp : putOK m k f = true) (hF : 16 * k + f = F) (hk : hK h a = k) : ev L xs m pc Ls (.ref v :: .ref a :: st) h = ev L xs m (pc + 3) Ls st (sR h F a v) :=
  ev_stp hd (by show putF m i pc Ls (.ref v :: .ref a :: st) h = _; subst hF; unfold putF; rw [hf]; (try simp only); rw [if_pos ⟨hk, hr, hp⟩])
theorem e_iald {a : Nat} {j : Int32} (hd : decode (mB m) pc = .ok (.iaload, 1)) (hk : hK h a = 8) (hi : inA j (hN h a) = true) : ev L xs m pc Ls (.int j :: .ref a :: st) h = ev L xs m (pc + 1) Ls (.int (hA h a j.toNatClampNeg) :: st) h :=
  ev_stp hd (by show iald L xs (mC m == 8) pc Ls (.int j :: .ref a :: st) h = _; unfold iald; (try simp only); rw [if_pos ⟨hk, hi⟩])
theorem e_sald {z : Nat} {j : Int32} (hd : decode (mB m) pc = .ok (.iaload, 1)) (hm : (mC m == 8) = true) (hi : inA j L = true) : ev L xs m pc Ls (.int j :: .retAddr z :: st) h = ev L xs m (pc + 1) Ls (.int (xs j.toNatClampNeg) :: st) h :=
  ev_stp hd (by show iald L xs (mC m == 8) pc Ls (.int j :: .retAddr z :: st) h = _; unfold iald; (try simp only); rw [if_pos ⟨hm, hi⟩])
theorem e_slen {z : Nat} (hd : decode (mB m) pc = .ok (.arraylength, 1)) (hm : (mC m == 8) = true) : ev L xs m pc Ls (.retAddr z :: st) h = ev L xs m (pc + 1) Ls (.int (Int32.ofNat L) :: st) h :=
  ev_stp hd (by show alen L (mC m == 8) pc Ls (.retAddr z :: st) h = _; unfold alen; (try simp only); rw [if_pos hm])
theorem e_alen {a : Nat} (hd : decode (mB m) pc = .ok (.arraylength, 1)) (hk : hK h a = 8) : ev L xs m pc Ls (.ref a :: st) h = ev L xs m (pc + 1) Ls (.int (Int32.ofNat (hN h a)) :: st) h :=
  ev_stp hd (by show alen L (mC m == 8) pc Ls (.ref a :: st) h = _; unfold alen; (try simp only); rw [if_pos hk])
theorem e_iast {a : Nat} {j v : Int32} (hd : decode (mB m) pc = .ok (.iastore, 1)) (hk : hK h a = 8) (hi : inA j (hN h a) = true) : ev L xs m pc Ls (.int v :: .int j :: .ref a :: st) h = ev L xs m (pc + 1) Ls st (sA h a j.toNatClampNeg v) :=
  ev_stp hd (by show iast pc Ls (.int v :: .int j :: .ref a :: st) h = _; unfold iast; (try simp only); rw [if_pos ⟨hk, hi⟩])
theorem e_lald {a : Nat} {j : Int32} (hd : decode (mB m) pc = .ok (.laload, 1)) (hk : hK h a = 12) (hi : inA j (hN h a) = true) : ev L xs m pc Ls (.int j :: .ref a :: st) h = ev L xs m (pc + 1) Ls (.long (hL h a j.toNatClampNeg) :: st) h :=
  ev_stp hd (by show lald pc Ls (.int j :: .ref a :: st) h = _; unfold lald; (try simp only); rw [if_pos ⟨hk, hi⟩])
theorem e_last {a : Nat} {j : Int32} {v : Int64} (hd : decode (mB m) pc = .ok (.lastore, 1)) (hk : hK h a = 12) (hi : inA j (hN h a) = true) : ev L xs m pc Ls (.long v :: .int j :: .ref a :: st) h = ev L xs m (pc + 1) Ls st (sL h a j.toNatClampNeg v) :=
  ev_stp hd (by show last pc Ls (.long v :: .int j :: .ref a :: st) h = _; unfold last; (try simp only); rw [if_pos ⟨hk, hi⟩])
theorem e_aald {a : Nat} {j : Int32} (hd : decode (mB m) pc = .ok (.aaload, 1)) (hk : hK h a = 9 ∨ hK h a = 10 ∨ hK h a = 11) (hi : inA j (hN h a) = true) (hq : (hQ h a j.toNatClampNeg).isSome = true) : ev L xs m pc Ls (.int j :: .ref a :: st) h = ev L xs m (pc + 1) Ls (.ref ((hQ h a j.toNatClampNeg).getD 0) :: st) h := by
  obtain ⟨z, hz⟩ := Option.isSome_iff_exists.mp hq
  rw [hz]
  exact ev_stp hd (by show aald pc Ls (.int j :: .ref a :: st) h = _; unfold aald; (try simp only); rw [if_pos ⟨hk, hi⟩, hz]; rfl)
theorem e_aast {a v : Nat} {j : Int32} (hd : decode (mB m) pc = .ok (.aastore, 1)) (hk : hK h a = 9 ∨ hK h a = 10 ∨ hK h a = 11) (hi : inA j (hN h a) = true) (hv : hK h v = rowK (hK h a)) : ev L xs m pc Ls (.ref v :: .int j :: .ref a :: st) h = ev L xs m (pc + 1) Ls st (sQ h a j.toNatClampNeg v) :=
  ev_stp hd (by show aast pc Ls (.ref v :: .int j :: .ref a :: st) h = _; unfold aast; (try simp only); rw [if_pos ⟨hk, hi, hv⟩])
theorem e_iadd {x z : Int32} (hd : decode (mB m) pc = .ok (.iadd, 1)) : ev L xs m pc Ls (.int z :: .int x :: st) h = ev L xs m (pc + 1) Ls (.int (x + z) :: st) h := ev_stp hd rfl
theorem e_isub {x z : Int32} (hd : decode (mB m) pc = .ok (.isub, 1)) : ev L xs m pc Ls (.int z :: .int x :: st) h = ev L xs m (pc + 1) Ls (.int (x - z) :: st) h := ev_stp hd rfl
theorem e_imul {x z : Int32} (hd : decode (mB m) pc = .ok (.imul, 1)) : ev L xs m pc Ls (.int z :: .int x :: st) h = ev L xs m (pc + 1) Ls (.int (x * z) :: st) h := ev_stp hd rfl
theorem e_iand {x z : Int32} (hd : decode (mB m) pc = .ok (.iand, 1)) : ev L xs m pc Ls (.int z :: .int x :: st) h = ev L xs m (pc + 1) Ls (.int (x &&& z) :: st) h := ev_stp hd rfl
theorem e_ior {x z : Int32} (hd : decode (mB m) pc = .ok (.ior, 1)) : ev L xs m pc Ls (.int z :: .int x :: st) h = ev L xs m (pc + 1) Ls (.int (x ||| z) :: st) h := ev_stp hd rfl
theorem e_ixor {x z : Int32} (hd : decode (mB m) pc = .ok (.ixor, 1)) : ev L xs m pc Ls (.int z :: .int x :: st) h = ev L xs m (pc + 1) Ls (.int (x ^^^ z) :: st) h := ev_stp hd rfl
theorem e_ishl {x z : Int32} (hd : decode (mB m) pc = .ok (.ishl, 1)) : ev L xs m pc Ls (.int z :: .int x :: st) h = ev L xs m (pc + 1) Ls (.int (x <<< (z &&& 31)) :: st) h := ev_stp hd rfl
theorem e_ishr {x z : Int32} (hd : decode (mB m) pc = .ok (.ishr, 1)) : ev L xs m pc Ls (.int z :: .int x :: st) h = ev L xs m (pc + 1) Ls (.int (x >>> (z &&& 31)) :: st) h := ev_stp hd rfl
theorem e_iushr {x z : Int32} (hd : decode (mB m) pc = .ok (.iushr, 1)) : ev L xs m pc Ls (.int z :: .int x :: st) h = ev L xs m (pc + 1) Ls (.int (x.toUInt32 >>> (z.toUInt32 &&& Int32.toUInt32 31)).toInt32 :: st) h := ev_stp hd rfl
theorem e_idiv {x z : Int32} (hd : decode (mB m) pc = .ok (.idiv, 1)) (hz : ¬ z = 0) : ev L xs m pc Ls (.int z :: .int x :: st) h = ev L xs m (pc + 1) Ls (.int (x / z) :: st) h := ev_stp hd (if_neg hz)
theorem e_irem {x z : Int32} (hd : decode (mB m) pc = .ok (.irem, 1)) (hz : ¬ z = 0) : ev L xs m pc Ls (.int z :: .int x :: st) h = ev L xs m (pc + 1) Ls (.int (x - x / z * z) :: st) h := ev_stp hd (if_neg hz)
theorem e_ineg {x : Int32} (hd : decode (mB m) pc = .ok (.ineg, 1)) : ev L xs m pc Ls (.int x :: st) h = ev L xs m (pc + 1) Ls (.int (-x) :: st) h := ev_stp hd rfl
theorem e_ladd {x z : Int64} (hd : decode (mB m) pc = .ok (.ladd, 1)) : ev L xs m pc Ls (.long z :: .long x :: st) h = ev L xs m (pc + 1) Ls (.long (x + z) :: st) h := ev_stp hd rfl
theorem e_lmul {x z : Int64} (hd : decode (mB m) pc = .ok (.lmul, 1)) : ev L xs m pc Ls (.long z :: .long x :: st) h = ev L xs m (pc + 1) Ls (.long (x * z) :: st) h := ev_stp hd rfl
theorem e_i2l {x : Int32} (hd : decode (mB m) pc = .ok (.i2l, 1)) : ev L xs m pc Ls (.int x :: st) h = ev L xs m (pc + 1) Ls (.long x.toInt64 :: st) h := ev_stp hd rfl
theorem e_i2d {x : Int32} (hd : decode (mB m) pc = .ok (.i2d, 1)) : ev L xs m pc Ls (.int x :: st) h = ev L xs m (pc + 1) Ls (.double (FP.i2d x) :: st) h := ev_stp hd rfl
theorem e_lcmp {x z : Int64} (hd : decode (mB m) pc = .ok (.lcmp, 1)) : ev L xs m pc Ls (.long z :: .long x :: st) h = ev L xs m (pc + 1) Ls (.int (lg_cmp x z) :: st) h := ev_stp hd rfl
theorem e_dcmp {x z : UInt64} {o : CmpOp} (hd : decode (mB m) pc = .ok (.dcmp o, 1)) : ev L xs m pc Ls (.double z :: .double x :: st) h = ev L xs m (pc + 1) Ls (.int (Op.cmpValue (FP.dcmp x z) o) :: st) h := ev_stp hd rfl
theorem e_ddiv {x z : UInt64} (hd : decode (mB m) pc = .ok (.ddiv, 1)) (hv : FP.ddiv x z &&& 0x7fffffffffffffff ≤ 0x7ff0000000000000) : ev L xs m pc Ls (.double z :: .double x :: st) h = ev L xs m (pc + 1) Ls (.double (FP.ddiv x z) :: st) h := ev_stp hd (if_pos hv)
theorem e_dup {v : Value} (hd : decode (mB m) pc = .ok (.dup, 1)) (hv : v.category = 1) : ev L xs m pc Ls (v :: st) h = ev L xs m (pc + 1) Ls (v :: v :: st) h := ev_stp hd (if_pos hv)
theorem e_dup2 {v w : Value} (hd : decode (mB m) pc = .ok (.dup2, 1)) (hv : v.category = 1) (hw : w.category = 1) : ev L xs m pc Ls (v :: w :: st) h = ev L xs m (pc + 1) Ls (v :: w :: v :: w :: st) h := ev_stp hd (if_pos ⟨hv, hw⟩)
theorem e_pop {v : Value} (hd : decode (mB m) pc = .ok (.pop, 1)) (hv : v.category = 1) : ev L xs m pc Ls (v :: st) h = ev L xs m (pc + 1) Ls st h := ev_stp hd (if_pos hv)
theorem jmp_eq {o : Int} {t : Nat} (ht : (pc : Int) + o = (t : Int)) : jok pc o = true ∧ jmp pc o = t := by
  unfold jok jmp
  rw [decide_eq_true_eq]
  omega
theorem e_goto {o : Int} {t : Nat} (hd : decode (mB m) pc = .ok (.goto o, 3)) (ht : (pc : Int) + o = (t : Int)) : ev L xs m pc Ls st h = ev L xs m t Ls st h := by
  obtain ⟨h1, h2⟩ := jmp_eq ht
  have := ev_stp (L := L) (xs := xs) (Ls := Ls) (st := st) (h := h) hd (pc' := jmp pc o) (Ls' := Ls) (st' := st) (h' := h) (if_pos h1)
  rw [h2] at this
  exact this
theorem e_br {I : Instr} {o : Int} {t : Nat} {st0 : List Value} {b : Bool} (hd : decode (mB m) pc = .ok (I, 3)) (ht : (pc : Int) + o = (t : Int)) (hs : jok pc o = true → stepI L xs m pc Ls st0 h I 3 = some (.inl (if b = true then jmp pc o else pc + 3, Ls, st, h))) : ev L xs m pc Ls st0 h = if b = true then ev L xs m t Ls st h else ev L xs m (pc + 3) Ls st h := by
  obtain ⟨h1, h2⟩ := jmp_eq ht
  rw [ev_stp hd (hs h1), h2]
  cases b <;> rfl
theorem e_icmp {cd : ClassFile.Cond} {o : Int} {t : Nat} {x z : Int32} (hd : decode (mB m) pc = .ok (.if_icmp cd o, 3)) (ht : (pc : Int) + o = (t : Int)) : ev L xs m pc Ls (.int z :: .int x :: st) h = if cmpI cd x z = true then ev L xs m t Ls st h else ev L xs m (pc + 3) Ls st h := e_br hd ht (fun hj => if_pos hj)
theorem e_if {cd : ClassFile.Cond} {o : Int} {t : Nat} {x : Int32} (hd : decode (mB m) pc = .ok (.ifCond cd o, 3)) (ht : (pc : Int) + o = (t : Int)) : ev L xs m pc Ls (.int x :: st) h = if cmpI cd x 0 = true then ev L xs m t Ls st h else ev L xs m (pc + 3) Ls st h := e_br hd ht (fun hj => if_pos hj)
theorem ite_dec {α : Type} {c : Prop} {b : Bool} [Decidable c] {x y : α} (hb : b = decide c) : (if b = true then x else y) = if c then x else y := by
  subst hb
  by_cases hc : c <;> simp [hc]
theorem e_if_eq {o : Int} {t : Nat} {x : Int32} (hd : decode (mB m) pc = .ok (.ifCond .eq o, 3)) (ht : (pc : Int) + o = (t : Int)) : ev L xs m pc Ls (.int x :: st) h = if x = 0 then ev L xs m t Ls st h else ev L xs m (pc + 3) Ls st h := by rw [e_if hd ht]; exact ite_dec rfl
theorem e_if_ne {o : Int} {t : Nat} {x : Int32} (hd : decode (mB m) pc = .ok (.ifCond .ne o, 3)) (ht : (pc : Int) + o = (t : Int)) : ev L xs m pc Ls (.int x :: st) h = if x = 0 then ev L xs m (pc + 3) Ls st h else ev L xs m t Ls st h := by rw [e_if hd ht]; unfold cmpI; by_cases hc : x = 0 <;> simp [hc]
theorem e_if_lt {o : Int} {t : Nat} {x : Int32} (hd : decode (mB m) pc = .ok (.ifCond .lt o, 3)) (ht : (pc : Int) + o = (t : Int)) : ev L xs m pc Ls (.int x :: st) h = if x < 0 then ev L xs m t Ls st h else ev L xs m (pc + 3) Ls st h := by rw [e_if hd ht]; exact ite_dec rfl
theorem e_if_ge {o : Int} {t : Nat} {x : Int32} (hd : decode (mB m) pc = .ok (.ifCond .ge o, 3)) (ht : (pc : Int) + o = (t : Int)) : ev L xs m pc Ls (.int x :: st) h = if 0 ≤ x then ev L xs m t Ls st h else ev L xs m (pc + 3) Ls st h := by rw [e_if hd ht]; exact ite_dec rfl
theorem e_if_gt {o : Int} {t : Nat} {x : Int32} (hd : decode (mB m) pc = .ok (.ifCond .gt o, 3)) (ht : (pc : Int) + o = (t : Int)) : ev L xs m pc Ls (.int x :: st) h = if 0 < x then ev L xs m t Ls st h else ev L xs m (pc + 3) Ls st h := by rw [e_if hd ht]; exact ite_dec rfl
theorem e_if_le {o : Int} {t : Nat} {x : Int32} (hd : decode (mB m) pc = .ok (.ifCond .le o, 3)) (ht : (pc : Int) + o = (t : Int)) : ev L xs m pc Ls (.int x :: st) h = if x ≤ 0 then ev L xs m t Ls st h else ev L xs m (pc + 3) Ls st h := by rw [e_if hd ht]; exact ite_dec rfl
theorem e_ic_eq {o : Int} {t : Nat} {x z : Int32} (hd : decode (mB m) pc = .ok (.if_icmp .eq o, 3)) (ht : (pc : Int) + o = (t : Int)) : ev L xs m pc Ls (.int z :: .int x :: st) h = if x = z then ev L xs m t Ls st h else ev L xs m (pc + 3) Ls st h := by rw [e_icmp hd ht]; exact ite_dec rfl
theorem e_ic_ne {o : Int} {t : Nat} {x z : Int32} (hd : decode (mB m) pc = .ok (.if_icmp .ne o, 3)) (ht : (pc : Int) + o = (t : Int)) : ev L xs m pc Ls (.int z :: .int x :: st) h = if x = z then ev L xs m (pc + 3) Ls st h else ev L xs m t Ls st h := by rw [e_icmp hd ht]; unfold cmpI; by_cases hc : x = z <;> simp [hc]
theorem e_ic_lt {o : Int} {t : Nat} {x z : Int32} (hd : decode (mB m) pc = .ok (.if_icmp .lt o, 3)) (ht : (pc : Int) + o = (t : Int)) : ev L xs m pc Ls (.int z :: .int x :: st) h = if x < z then ev L xs m t Ls st h else ev L xs m (pc + 3) Ls st h := by rw [e_icmp hd ht]; exact ite_dec rfl
theorem e_ic_ge {o : Int} {t : Nat} {x z : Int32} (hd : decode (mB m) pc = .ok (.if_icmp .ge o, 3)) (ht : (pc : Int) + o = (t : Int)) : ev L xs m pc Ls (.int z :: .int x :: st) h = if z ≤ x then ev L xs m t Ls st h else ev L xs m (pc + 3) Ls st h := by rw [e_icmp hd ht]; exact ite_dec rfl
theorem e_ic_gt {o : Int} {t : Nat} {x z : Int32} (hd : decode (mB m) pc = .ok (.if_icmp .gt o, 3)) (ht : (pc : Int) + o = (t : Int)) : ev L xs m pc Ls (.int z :: .int x :: st) h = if z < x then ev L xs m t Ls st h else ev L xs m (pc + 3) Ls st h := by rw [e_icmp hd ht]; exact ite_dec rfl
theorem e_ic_le {o : Int} {t : Nat} {x z : Int32} (hd : decode (mB m) pc = .ok (.if_icmp .le o, 3)) (ht : (pc : Int) + o = (t : Int)) : ev L xs m pc Ls (.int z :: .int x :: st) h = if x ≤ z then ev L xs m t Ls st h else ev L xs m (pc + 3) Ls st h := by rw [e_icmp hd ht]; exact ite_dec rfl
theorem e_tsw {d lo hi o : Int} {offs : Array Int} {len t : Nat} {x : Int32} (hd : decode (mB m) pc = .ok (.tableswitch d lo hi offs, len)) (ho : tswT pc d lo hi offs x = some o) (ht : (pc : Int) + o = (t : Int)) : ev L xs m pc Ls (.int x :: st) h = ev L xs m t Ls st h := by
  obtain ⟨h1, h2⟩ := jmp_eq ht
  have := ev_stp (L := L) (xs := xs) (Ls := Ls) (st := .int x :: st) (h := h) hd (pc' := jmp pc o) (Ls' := Ls) (st' := st) (h' := h) (by show (match tswT pc d lo hi offs x with | some o => _ | none => _) = _; rw [ho]; exact if_pos h1)
  rw [h2] at this
  exact this
theorem e_lsw {d : Int} {ps : Array (Int × Int)} {len t : Nat} {x : Int32} (hd : decode (mB m) pc = .ok (.lookupswitch d ps, len)) (hp : (ps.toList.zip (ps.toList.drop 1)).all (fun q => decide (q.1.1 < q.2.1)) = true) (ht : (pc : Int) + Op.lookupswitch.offset ps.toList d x.toInt = (t : Int)) : ev L xs m pc Ls (.int x :: st) h = ev L xs m t Ls st h := by
  obtain ⟨h1, h2⟩ := jmp_eq ht
  have := ev_stp (L := L) (xs := xs) (Ls := Ls) (st := .int x :: st) (h := h) hd (pc' := jmp pc (Op.lookupswitch.offset ps.toList d x.toInt)) (Ls' := Ls) (st' := st) (h' := h) (if_pos ⟨hp, h1⟩)
  rw [h2] at this
  exact this
theorem e_new {k : Nat} (hd : decode (mB m) pc = .ok (.new i, 3)) (hk : nRes (mC m) i = some k) : ev L xs m pc Ls st h = ev L xs m (pc + 3) Ls (.ref (hn h) :: st) (nw h k 0 (cN k)) := ev_stp hd (by show newO m i pc Ls st h = _; unfold newO; rw [hk])
theorem e_newI {c : Int32} (hd : decode (mB m) pc = .ok (.newarray .int, 2)) (h0 : 0 ≤ c) (h1 : c ≤ 10000) : ev L xs m pc Ls (.int c :: st) h = ev L xs m (pc + 2) Ls (.ref (hn h) :: st) (nw h 8 c.toNatClampNeg c.toNatClampNeg) := ev_stp hd (if_pos ⟨h0, h1⟩)
theorem e_newL {c : Int32} (hd : decode (mB m) pc = .ok (.newarray .long, 2)) (h0 : 0 ≤ c) (h1 : c ≤ 10000) : ev L xs m pc Ls (.int c :: st) h = ev L xs m (pc + 2) Ls (.ref (hn h) :: st) (nw h 12 c.toNatClampNeg c.toNatClampNeg) := ev_stp hd (if_pos ⟨h0, h1⟩)
theorem e_newQ {k : Nat} {c : Int32} (hd : decode (mB m) pc = .ok (.anewarray i, 3)) (hk : qRes (mC m) i = some k) (h0 : 0 ≤ c) (h1 : c ≤ 10000) : ev L xs m pc Ls (.int c :: st) h = ev L xs m (pc + 3) Ls (.ref (hn h) :: st) (nw h k c.toNatClampNeg c.toNatClampNeg) := ev_stp hd (by show newQ m i pc Ls (.int c :: st) h = _; unfold newQ; rw [hk]; exact if_pos ⟨h0, h1⟩)
theorem e_throw {is ic : Nat} {E : String} (hd : decode (mB m) pc = .ok (.new i, 3)) (hk : nRes (mC m) i = none) (d3 : decode (mB m) (pc + 3) = .ok (.dup, 1)) (d4 : decode (mB m) (pc + 4) = .ok (.ldc is, 2)) (d6 : decode (mB m) (pc + 6) = .ok (.invokespecial ic, 3)) (d9 : decode (mB m) (pc + 9) = .ok (.athrow, 1)) (hE : xRes i ic = some E) (hc9 : mC m = 6 ∧ (sRT.any (fun q => q.1 == is)) = true ∧ mV m = 9 ∧ mH m = []) : ev L xs m pc Ls [] h = some (.inr (E, bump h)) :=
  ev_thr L xs (by unfold stp; rw [hd]; show newO m i pc Ls [] h = _; unfold newO; rw [hk, d3, d4, d6, d9]; (try simp only); rw [hE]; exact if_pos ⟨hc9.1, hc9.2.1, hc9.2.2.1, hc9.2.2.2, trivial⟩)
theorem e_throwW {is ic : Nat} {E : String} (hd : decode (mB m) pc = .ok (.new i, 3)) (hk : nRes (mC m) i = none) (d3 : decode (mB m) (pc + 3) = .ok (.dup, 1)) (d4 : decode (mB m) (pc + 4) = .ok (.ldc_w is, 3)) (d6 : decode (mB m) (pc + 7) = .ok (.invokespecial ic, 3)) (d9 : decode (mB m) (pc + 10) = .ok (.athrow, 1)) (hE : xRes i ic = some E) (hc9 : mC m = 6 ∧ (sRT.any (fun q => q.1 == is)) = true ∧ mV m = 9 ∧ mH m = []) : ev L xs m pc Ls [] h = some (.inr (E, bump h)) :=
  ev_thr L xs (by unfold stp; rw [hd]; show newO m i pc Ls [] h = _; unfold newO; rw [hk, d3, d4, d6, d9]; (try simp only); rw [hE]; exact if_pos ⟨hc9.1, hc9.2.1, hc9.2.2.1, hc9.2.2.2, trivial⟩)
theorem e_copy {a d : Nat} {sp dp c : Int32} (hd : decode (mB m) pc = .ok (.invokestatic i, 3)) (hm : mRes (mC m) i = some (y, 8, n)) (h0 : mV m ≠ 0) (hw : wds st ≤ 8) (hk : hK h a = 8) (hk2 : hK h d = 8) (h1 : 0 ≤ sp) (h2 : 0 ≤ dp) (h3 : 0 ≤ c) (h4 : sp.toNatClampNeg + c.toNatClampNeg ≤ hN h a) (h5 : dp.toNatClampNeg + c.toNatClampNeg ≤ hN h d) : ev L xs m pc Ls (.int c :: .int dp :: .ref d :: .int sp :: .ref a :: st) h = ev L xs m (pc + 3) Ls st (cpA h a sp.toNatClampNeg d dp.toNatClampNeg c.toNatClampNeg) :=
  ev_stp hd (by show invS m i pc Ls (.int c :: .int dp :: .ref d :: .int sp :: .ref a :: st) h = _; unfold invS; rw [hm]; (try simp only); rw [if_pos trivial]; exact if_pos ⟨h0, hw, hk, hk2, h1, h2, h3, h4, h5⟩)
theorem e_min {x z : Int32} (hd : decode (mB m) pc = .ok (.invokestatic i, 3)) (hm : mRes (mC m) i = some (y, 9, n)) (h0 : mV m ≠ 0) (hw : wds st ≤ 8) : ev L xs m pc Ls (.int z :: .int x :: st) h = ev L xs m (pc + 3) Ls (.int (if z < x then z else x) :: st) h :=
  ev_stp hd (by show invS m i pc Ls (.int z :: .int x :: st) h = _; unfold invS; rw [hm]; (try simp only); rw [if_neg (by decide), if_pos trivial]; exact if_pos ⟨h0, hw⟩)
theorem e_obj {a : Nat} (hd : decode (mB m) pc = .ok (.invokespecial i, 3)) (hm : mRes (mC m) i = some (y, 7, n)) (h0 : mV m ≠ 0) (hw : wds st ≤ 8) : ev L xs m pc Ls (.ref a :: st) h = ev L xs m (pc + 3) Ls st h :=
  ev_stp hd (by show invI m i pc Ls (.ref a :: st) h = _; unfold invI; rw [hm]; (try simp only); rw [if_pos trivial]; exact if_pos ⟨h0, hw⟩)
theorem ev_cl {st0 vs rest vs' : List Value} {I : Instr} (hd : decode (mB m) pc = .ok (I, 3)) (he : entL vs (mM y) = vs') (hs : stepI L xs m pc Ls st0 h I 3 = some (.inr (.inr (.inl (y, vs, rest))))) :
    ev L xs m pc Ls st0 h = kn L xs m pc (pc + 3) Ls rest (ev L xs y 0 vs' [] h) := by
  subst he
  exact ev_call L xs (by unfold stp; rw [hd]; exact hs)
theorem e_callS {mode : Nat} {as vs' : List Value} (hd : decode (mB m) pc = .ok (.invokestatic i, 3)) (hm : mRes (mC m) i = some (y, mode, n)) (hmd : mode = 0 ∨ mode = 3 ∨ mode = 6) (hl : mV y < mV m) (hn9 : as.length = n) (hwa : wds as ≤ mM y) (he : entL as.reverse (mM y) = vs') (hw : wds st ≤ 8) :
    ev L xs m pc Ls (as ++ st) h = kn L xs m pc (pc + 3) Ls st (ev L xs y 0 vs' [] h) := by
  refine ev_cl hd he ?_
  show invS m i pc Ls _ h = _
  unfold invS
  rw [hm]
  try simp only
  rw [if_neg (by omega), if_neg (by omega)]
  subst hn9
  unfold clS
  rw [List.drop_left, List.take_left, if_pos ⟨hl, hw, by simp, hwa⟩, if_pos hmd]
theorem e_callV {mode a : Nat} {as vs' : List Value} (hd : decode (mB m) pc = .ok (.invokevirtual i, 3)) (hm : mRes (mC m) i = some (y, mode, n)) (hmd : mode = 1 ∨ mode = 5) (hl : mV y < mV m) (hn9 : as.length = n) (hwa : wds as + 1 ≤ mM y) (he : entL (.ref a :: as.reverse) (mM y) = vs') (h8 : mC y < 8) (hk : hK h a = mC y) (hw : wds st ≤ 8) :
    ev L xs m pc Ls (as ++ .ref a :: st) h = kn L xs m pc (pc + 3) Ls st (ev L xs y 0 vs' [] h) := by
  refine ev_cl hd he ?_
  show invV m i _ h = _
  unfold invV
  rw [hm]
  try simp only
  rw [if_pos hmd]
  subst hn9
  unfold clV
  rw [List.drop_left, List.take_left]
  try simp only
  rw [if_pos ⟨hl, hw, by simp, hwa, hk, h8⟩]
theorem e_callI {mode a : Nat} {as vs' : List Value} (hd : decode (mB m) pc = .ok (.invokespecial i, 3)) (hm : mRes (mC m) i = some (y, mode, n)) (hmd : mode = 2 ∨ mode = 4) (hl : mV y < mV m) (hn9 : as.length = n) (hwa : wds as + 1 ≤ mM y) (he : entL (.ref a :: as.reverse) (mM y) = vs') (h8 : mC y < 8) (hk : hK h a = mC y) (hw : wds st ≤ 8) :
    ev L xs m pc Ls (as ++ .ref a :: st) h = kn L xs m pc (pc + 3) Ls st (ev L xs y 0 vs' [] h) := by
  refine ev_cl hd he ?_
  show invI m i pc Ls _ h = _
  unfold invI
  rw [hm]
  try simp only
  rw [if_neg (by omega), if_pos hmd]
  subst hn9
  unfold clV
  rw [List.drop_left, List.take_left]
  try simp only
  rw [if_pos ⟨hl, hw, by simp, hwa, hk, h8⟩]
theorem e_iret {v : Int32} (hd : decode (mB m) pc = .ok (.ireturn, 1)) (hr : mR m = some .int) : ev L xs m pc Ls [.int v] h = some (.inl (some (.int v), h)) := ev_ret L xs (by unfold stp; rw [hd]; exact if_pos (Or.inl hr))
theorem e_zret {v : Int32} (hd : decode (mB m) pc = .ok (.ireturn, 1)) (hr : mR m = some .boolean) (hv : v = 0 ∨ v = 1) : ev L xs m pc Ls [.int v] h = some (.inl (some (.int v), h)) := ev_ret L xs (by unfold stp; rw [hd]; exact if_pos (Or.inr ⟨hr, hv⟩))
theorem e_lret {v : Int64} (hd : decode (mB m) pc = .ok (.lreturn, 1)) (hr : mR m = some .long) : ev L xs m pc Ls [.long v] h = some (.inl (some (.long v), h)) := ev_ret L xs (by unfold stp; rw [hd]; exact if_pos hr)
theorem e_dret {v : UInt64} (hd : decode (mB m) pc = .ok (.dreturn, 1)) (hr : mR m = some .double) : ev L xs m pc Ls [.double v] h = some (.inl (some (.double v), h)) := ev_ret L xs (by unfold stp; rw [hd]; exact if_pos hr)
theorem e_vret (hd : decode (mB m) pc = .ok (.return_, 1)) (hr : mR m = none) : ev L xs m pc Ls [] h = some (.inl (none, h)) := ev_ret L xs (by unfold stp; rw [hd]; exact if_pos ⟨hr, rfl⟩)
end
end
