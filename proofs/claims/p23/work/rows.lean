section
-- ===== PART A: goes FIRST, ahead of the names: the tables' words, and 'selects' of the private methods out of them =====
/-- a private method of a class that the tables say can be made, by its rows of tables_1 -/
def lw_okq (q : MethodName × Nat) : Prop := (q.1.cls ≠ "java/lang/invoke/MethodHandle" ∧ q.1.cls ≠ "java/lang/invoke/VarHandle") ∧ Cond.instantiable q.1.cls q.2 ∈ tables_1 ∧ Cond.privateMethod q.1 ∈ tables_1 ∧ Cond.instanceMethod q.1 ∈ tables_1
theorem lw_p0 : lw_okq (⟨"LampRoom", "checkLamp", "(I)V"⟩, 4) := ⟨⟨by decide +kernel, by decide +kernel⟩, List.mem_of_getElem? (i := 12) (by decide +kernel), List.mem_of_getElem? (i := 103) (by decide +kernel), List.mem_of_getElem? (i := 104) (by decide +kernel)⟩
theorem lw_p1 : lw_okq (⟨"java/lang/Throwable", "fillInStackTrace", "(I)Ljava/lang/Throwable;"⟩, 6) := ⟨⟨by decide +kernel, by decide +kernel⟩, List.mem_of_getElem? (i := 149) (by decide +kernel), List.mem_of_getElem? (i := 147) (by decide +kernel), List.mem_of_getElem? (i := 148) (by decide +kernel)⟩
theorem lw_p2 : lw_okq (⟨"LampRoom", "checkMiner", "(I)V"⟩, 4) := ⟨⟨by decide +kernel, by decide +kernel⟩, List.mem_of_getElem? (i := 12) (by decide +kernel), List.mem_of_getElem? (i := 306) (by decide +kernel), List.mem_of_getElem? (i := 307) (by decide +kernel)⟩
theorem lw_p3 : lw_okq (⟨"LampRoom$Lamps", "fullestOf", "(I)I"⟩, 7) := ⟨⟨by decide +kernel, by decide +kernel⟩, List.mem_of_getElem? (i := 20) (by decide +kernel), List.mem_of_getElem? (i := 316) (by decide +kernel), List.mem_of_getElem? (i := 317) (by decide +kernel)⟩
theorem lw_p4 : lw_okq (⟨"LampRoom$Lamps", "isIssuable", "(II)Z"⟩, 7) := ⟨⟨by decide +kernel, by decide +kernel⟩, List.mem_of_getElem? (i := 20) (by decide +kernel), List.mem_of_getElem? (i := 320) (by decide +kernel), List.mem_of_getElem? (i := 321) (by decide +kernel)⟩
theorem lw_p5 : lw_okq (⟨"LampRoom", "passHour", "()I"⟩, 4) := ⟨⟨by decide +kernel, by decide +kernel⟩, List.mem_of_getElem? (i := 12) (by decide +kernel), List.mem_of_getElem? (i := 396) (by decide +kernel), List.mem_of_getElem? (i := 397) (by decide +kernel)⟩
theorem lw_p6 : lw_okq (⟨"LampRoom", "beginAlarms", "(II)I"⟩, 4) := ⟨⟨by decide +kernel, by decide +kernel⟩, List.mem_of_getElem? (i := 12) (by decide +kernel), List.mem_of_getElem? (i := 410) (by decide +kernel), List.mem_of_getElem? (i := 411) (by decide +kernel)⟩
theorem lw_p7 : lw_okq (⟨"LampRoom$Tallies", "countAhead", "(I)I"⟩, 6) := ⟨⟨by decide +kernel, by decide +kernel⟩, List.mem_of_getElem? (i := 51) (by decide +kernel), List.mem_of_getElem? (i := 455) (by decide +kernel), List.mem_of_getElem? (i := 456) (by decide +kernel)⟩
theorem lw_p8 : lw_okq (⟨"LampRoom$Alarms", "countAhead", "(I)I"⟩, 1) := ⟨⟨by decide +kernel, by decide +kernel⟩, List.mem_of_getElem? (i := 76) (by decide +kernel), List.mem_of_getElem? (i := 467) (by decide +kernel), List.mem_of_getElem? (i := 468) (by decide +kernel)⟩
theorem lw_p9 : lw_okq (⟨"LampRoom$Alarms", "isAhead", "(II)Z"⟩, 1) := ⟨⟨by decide +kernel, by decide +kernel⟩, List.mem_of_getElem? (i := 76) (by decide +kernel), List.mem_of_getElem? (i := 471) (by decide +kernel), List.mem_of_getElem? (i := 472) (by decide +kernel)⟩
def lw_privs_1 : List (MethodName × Nat) := [(⟨"LampRoom", "checkLamp", "(I)V"⟩, 4), (⟨"java/lang/Throwable", "fillInStackTrace", "(I)Ljava/lang/Throwable;"⟩, 6), (⟨"LampRoom", "checkMiner", "(I)V"⟩, 4), (⟨"LampRoom$Lamps", "fullestOf", "(I)I"⟩, 7), (⟨"LampRoom$Lamps", "isIssuable", "(II)Z"⟩, 7), (⟨"LampRoom", "passHour", "()I"⟩, 4), (⟨"LampRoom", "beginAlarms", "(II)I"⟩, 4), (⟨"LampRoom$Tallies", "countAhead", "(I)I"⟩, 6), (⟨"LampRoom$Alarms", "countAhead", "(I)I"⟩, 1), (⟨"LampRoom$Alarms", "isAhead", "(II)Z"⟩, 1)]
theorem lw_r1 : ∀ q ∈ lw_privs_1, lw_okq q := List.forall_mem_cons.mpr ⟨lw_p0, List.forall_mem_cons.mpr ⟨lw_p1, List.forall_mem_cons.mpr ⟨lw_p2, List.forall_mem_cons.mpr ⟨lw_p3, List.forall_mem_cons.mpr ⟨lw_p4, List.forall_mem_cons.mpr ⟨lw_p5, List.forall_mem_cons.mpr ⟨lw_p6, List.forall_mem_cons.mpr ⟨lw_p7, List.forall_mem_cons.mpr ⟨lw_p8, List.forall_mem_cons.mpr ⟨lw_p9, fun _ h => absurd h List.not_mem_nil⟩⟩⟩⟩⟩⟩⟩⟩⟩⟩
def lw_privs : List (MethodName × Nat) := lw_privs_1
def lw_tbl : List Cond := k2_sels lw_privs ++ tables_1
theorem lw_privs_ok : ∀ q ∈ lw_privs, lw_okq q := lw_r1
/-- the streams that the claim lets the run draw from -/
abbrev lw_cs : List Choice := [Jvm.Choice.named "NaN.bits"]
theorem lw_bits : nanBits ∈ lw_cs := by first | decide | exact List.mem_cons_self | simp [lw_cs, nanBits]
end
section
/-! ===== BEGIN words of one list among another's, by their places ===== -/
theorem goodIn_r {big : List Cond} (ws : List Cond) (ps : List Nat) (hp : ws = ps.filterMap (fun i => big[i]?)) (h : ws.all goodWord = true) : GoodIn big ws := by
  intro w hw
  have h1 := List.all_eq_true.mp h w hw
  rw [hp] at hw
  obtain ⟨i, -, hi⟩ := List.mem_filterMap.mp hw
  have hm : w ∈ big := by first | exact List.mem_of_getElem? hi | exact List.getElem?_mem hi
  exact ⟨hm, good_of_word h1⟩
theorem goodIn_app {big a b : List Cond} (ha : GoodIn big a) (hb : GoodIn big b) : GoodIn big (a ++ b) := fun w h => (List.mem_append.mp h).elim (ha w) (hb w)
theorem goodIn_ca {big a b : List Cond} {c : Cond} (ha : GoodIn big (c :: a)) (hb : GoodIn big b) : GoodIn big (c :: (a ++ b)) := fun w h => (List.mem_cons.mp h).elim (fun e => ha w (List.mem_cons.mpr (Or.inl e))) (fun h => (List.mem_append.mp h).elim (fun h => ha w (List.mem_cons.mpr (Or.inr h))) (hb w))
theorem goodIn_sub {big ws : List Cond} (hm : ∀ w ∈ ws, w ∈ big) (h : ws.all goodWord = true) : GoodIn big ws := fun w hw => ⟨hm w hw, good_of_word (List.all_eq_true.mp h w hw)⟩
/-! ===== END ===== -/

/-! ===== BEGIN exceptions that leave a method, and their catching by the caller (launches without stack traces) ===== -/
section VXA
/-! The laws vx_back, vx_callV, vx_callS, vx_callSW, vx_throw0, vx_throwS follow proofs of the library, with one case more: JvmDerived/Free/Laws.lean (Back.of_free), Shelf42/LK1.lean (callV, callS), Shelf/KitTraced.lean (throwNew0V, throwNewS). -/
/-- where a method has thrown q: the class by its name, the cell, what was written, the world -/
def vx_T (XC : String → State → State → Prop) (st : State) (q : Addr) (t : State) (mc ms : Nat) (free : Addr → Prop) : Prop :=
  ∃ (E : String) (ce : Cell) (L : List Loc), XC E st t ∧ t.heap[q]? = some ce ∧ ce.vm = .none ∧ st.vm.findClass E = some ce.cls ∧ st.WarmedH t.vm ∧ st.sameButNew ({ t with vm := st.vm } : State) L mc ms ∧ ∀ z ∈ L, free z.base
def vx_Q (Qc : Array Value → State → Outcome → State → Prop) (XC : String → State → State → Prop) (mc ms : Nat) (free : Addr → Prop) : Array Value → State → Outcome → State → Prop := fun a st o t =>
  (Qc a st o t ∧ ∃ L, FrameEnd st o t L mc ms ∧ ∀ q ∈ L, free q.base) ∨ ∃ q, o = .threw q ∧ vx_T XC st q t mc ms free
/-- a callee that returns or throws -/
def vx_Met (l : Launch) (y : MethodName) (ws : List Cond) (rm : Room) (Pc : Array Value → State → Prop) (Qc : Array Value → State → Outcome → State → Prop) (XC : String → State → State → Prop) (mc ms : Nat) (free : Addr → Prop) : Prop :=
  MetFree l y (headSpec ws rm) Pc (fun _ _ _ _ _ => True) (vx_Q Qc XC mc ms free)
def vx_Post (XC : String → State → State → Prop) (mc ms : Nat) (free : Addr → Prop) : Pt → Array Value → Addr → Pt → Prop := fun A a q B =>
  ∃ (g : JFrame) (mk : MethodId) (t : State) (L : List Loc) (E : String) (ce : Cell), B.U.heap = t.heap ∧ B.U.vm = t.vm ∧ XC E (A.U.calling g mk a) t ∧ t.heap[q]? = some ce ∧ ce.vm = .none ∧ A.U.vm.findClass E = some ce.cls ∧ B.locs = A.locs ++ L ∧ (∀ z ∈ L, free z.base) ∧ B.cells = A.cells + mc ∧ B.slots = A.slots + ms
def vx_Back (l : Launch) (R : Room) (p : Program) (e : Env) (below : List Frame) (s : State) (sargs : Array Value) (y : MethodName) (len W9 : Nat)
    (Pre : Pt → Array Value → Prop) (Post : Pt → Array Value → Option Value → Pt → Prop) (PostX : Pt → Array Value → Addr → Pt → Prop) : Prop :=
  ∀ (m : MethodId) (meth : Method) (c : Code) (A : Pt) (g : JFrame) (ig : Instr) (mk : MethodId) (a : Array Value),
    Stand p l e R s m sargs below meth c A.U A.locs A.cells A.slots → g.method = m → g.locals.size = c.maxLocals → decode c.code g.pc = .ok (ig, len) →
    2 * g.monitorRoom + (g.stack.map fun v => v.category).sum ≤ W9 → A.U.methodNamed? y = some mk → Pre A a →
    (∃ (v : Option Value) (B : Pt), Stand p l e R s m sargs below meth c B.U B.locs B.cells B.slots ∧ Post A a v B ∧
      Steps p.tables e below (doInvoke e (A.U.setTop g) [] mk a).1 (B.U.setTop { g with pc := g.pc + len, stack := v.toList ++ g.stack })) ∨
    (∃ (q : Addr) (B : Pt), Stand p l e R s m sargs below meth c B.U B.locs B.cells B.slots ∧ PostX A a q B ∧
      Steps p.tables e below (doInvoke e (A.U.setTop g) [] mk a).1 ((B.U.setTop g).pushFrame (.throwing q)))
section Payer
variable {l : Launch} {R : Room} {p : Program} {e : Env} {below : List Frame} {s : State} {sargs : Array Value} {y : MethodName} {len W9 : Nat}
theorem vx_back {ws : List Cond} {rm : Room} {Pc : Array Value → State → Prop} {Qc : Array Value → State → Outcome → State → Prop} {XC : String → State → State → Prop} {mc ms : Nat} {free : Addr → Prop} {bytes : ByteArray} {maxL : Nat} {ret : Option FieldType}
    (hM : vx_Met l y ws rm Pc Qc XC mc ms free) (hblind : FrameBlind Pc) (hrc : rm.cells = mc) (hrs : rm.slots = ms)
    (hframes : rm.frames + 1 ≤ R.frames) (hlocals : W9 + (maxL + 11) + rm.locals ≤ R.locals)
    (hws : ∀ w ∈ ws, ∀ a' U, s.WarmedH U.vm → w.before a' U = true) (hcode : Cond.code y bytes maxL ret ∈ ws) (hinit : ∀ a' U, s.WarmedH U.vm → (Cond.initialized y.cls).before a' U = true) :
    vx_Back l R p e below s sargs y len W9 (PreOf R mc ms Pc) (PostOf Qc mc ms free) (vx_Post XC mc ms free) := by
  intro m meth c A g ig mk a X hg hsize hdg hW hn hp
  have h1 : (headSpec ws rm).pre.before a A.U = true := atoms_intro fun w hw => hws w hw _ _ X.warmed
  have h2 : (Cond.code y bytes maxL ret).before a A.U = true := hws _ hcode _ _ X.warmed
  have h3 : (Cond.initialized y.cls).before a A.U = true := hinit _ _ X.warmed
  have h4 : A.cells + (headSpec ws rm).room.cells ≤ R.cells := by rw [show (headSpec ws rm).room.cells = mc from hrc]; exact hp.1
  have h5 : A.slots + (headSpec ws rm).room.slots ≤ R.slots := by rw [show (headSpec ws rm).room.slots = ms from hrs]; exact hp.2.1
  have hPc : Pc a (A.U.calling g mk a) := hblind _ _ _ _ hp.2.2
  obtain ⟨U, Ls, c0, s0⟩ := A
  dsimp only [Pt.U, Pt.locs, Pt.cells, Pt.slots] at h1 h2 h3 h4 h5 X hn hPc ⊢
  obtain ⟨methY, cY, hmY, hcY, -, hlY, -, -, -, -⟩ := Cond.code_spec hn h2
  obtain ⟨kY, hkY, -⟩ := className_of_methodNamed hn
  have hinitY : kY.init = .initialized := Cond.initialized_spec (findClass_of_methodNamed hn) hkY h3
  have h : At U g.method c below := by rw [hg]; exact X.here
  have hlocals9 : W9 + (maxL + 11) + (headSpec ws rm).room.locals ≤ R.locals := hlocals
  have happ : (headSpec ws rm).appliesLoose y e.platform (U.calling g mk a) = true :=
    Spec.appliesLoose_calling (g := g) h hdg hn hkY hinitY
      (X.room_calling (g := g) (R' := (headSpec ws rm).room) hsize hmY hcY hframes (by rw [hlY]; omega) h4 h5) h1
  obtain ⟨mid, hmid⟩ := h.above
  have hfr : (U.setTop g).frames = (.java g :: mid) ++ below := by rw [State.frames_setTop' g h.top, hmid]; rfl
  obtain ⟨o, s₂, hsteps, -, hend, hq⟩ := Steps.callFree hM p X.admits X.cas X.clock (acts := []) hfr happ hPc trivial
  have hq' : vx_Q Qc XC mc ms free a (U.calling g mk a) o s₂ := hq
  rw [State.frames_setTop' g h.top] at hend
  obtain ⟨g₀, hg0⟩ := Option.isSome_iff_exists.mp h.top
  obtain ⟨r, hr⟩ := State.topJava?_eq_some.mp hg0
  have hr' : (({ U with heap := s₂.heap, slotsUsed := s₂.slotsUsed } : State).setVm s₂.vm).frames = .java g₀ :: r := hr
  rcases hq' with ⟨hqc, L, hfe, hL⟩ | ⟨q, rfl, E, ce, L, hx, hce, hcv, hcl, hW₂, hsm, hL⟩
  · obtain ⟨⟨v, rfl⟩, hW₂, e2, q2, q3, q4, q5, q6⟩ := id hfe
    have e3 : s₂ = ({ (U.calling g mk a).setFrames s₂.frames with heap := s₂.heap, slotsUsed := s₂.slotsUsed } : State).setVm s₂.vm := by
      have : s₂ = ({ s₂ with vm := (U.calling g mk a).vm } : State).setVm s₂.vm := rfl
      rw [e2] at this
      exact this
    obtain ⟨c₂, i₂, len₂, hc₂, hd₂, hf₂⟩ := hend
    have hW' : U.WarmedH s₂.vm := hW₂
    have hcc : c₂ = c := by
      have h1 : s₂.code? g.method = U.code? g.method := by
        rw [State.code?_eq, State.code?_eq, hW'.alike.method?]
      exact Option.some.inj (hc₂.symm.trans (h1.trans h.code))
    subst hcc
    have hlen : len₂ = len := by rw [hdg] at hd₂; cases hd₂; rfl
    subst hlen
    have hs₂ : s₂ = (({ U with heap := s₂.heap, slotsUsed := s₂.slotsUsed } : State).setVm s₂.vm).setTop { g with pc := g.pc + len₂, stack := v.toList ++ g.stack } := by
      refine e3.trans ?_
      rw [hf₂, State.calling_eq h.top, State.setFrames_setFrames, State.setTop_of_frames _ hr', hr]
      rfl
    have hsame : U.sameButNew ({ U with heap := s₂.heap, slotsUsed := s₂.slotsUsed } : State) L mc ms := by
      refine ⟨?_, q2, q3, q4, q5, q6⟩
      obtain ⟨t, ht, -⟩ := State.frames_cons hr
      show ({ U with heap := s₂.heap, slotsUsed := s₂.slotsUsed } : State) = { U.setFrames U.frames with heap := s₂.heap, slotsUsed := s₂.slotsUsed }
      rw [State.setFrames_self ht]
    subst hg
    refine Or.inl ⟨v, ⟨(({ U with heap := s₂.heap, slotsUsed := s₂.slotsUsed } : State).setVm s₂.vm), Ls ++ L, c0 + mc, s0 + ms⟩,
      ⟨X.admits, X.cas, X.clock, X.frames, X.room, X.hears, X.method, X.code, (X.here.setHeapUsed s₂.heap s₂.slotsUsed).setVm hW'.alike, X.tail, State.WarmedH.trans X.warmed hW', X.limits, X.bytes, X.same.trans (hsame.setVm s.vm)⟩,
      ⟨g, mk, s₂, L, rfl, rfl, hqc, rfl, hL, rfl, rfl⟩, ?_⟩
    show Steps p.tables e below _ ((({ U with heap := s₂.heap, slotsUsed := s₂.slotsUsed } : State).setVm s₂.vm).setTop { g with pc := g.pc + len₂, stack := v.toList ++ g.stack })
    rw [← hs₂]
    exact hsteps
  · obtain ⟨e2, q2, q3, q4, q5, q6⟩ := id hsm
    have e3 : s₂ = ({ (U.calling g mk a).setFrames s₂.frames with heap := s₂.heap, slotsUsed := s₂.slotsUsed } : State).setVm s₂.vm := by
      have : s₂ = ({ s₂ with vm := (U.calling g mk a).vm } : State).setVm s₂.vm := rfl
      rw [e2] at this
      exact this
    have hf₂ : s₂.frames = .throwing q :: .java g :: U.frames.tail := hend
    have hW' : U.WarmedH s₂.vm := hW₂
    have hs₂ : s₂ = ((({ U with heap := s₂.heap, slotsUsed := s₂.slotsUsed } : State).setVm s₂.vm).setTop g).pushFrame (.throwing q) := by
      refine e3.trans ?_
      rw [hf₂, State.calling_eq h.top, State.setFrames_setFrames, State.pushFrame, State.frames_setTop _ hr', State.setTop_of_frames _ hr', State.setFrames_setFrames, hr]
      rfl
    have hsame : U.sameButNew ({ U with heap := s₂.heap, slotsUsed := s₂.slotsUsed } : State) L mc ms := by
      refine ⟨?_, q2, q3, q4, q5, q6⟩
      obtain ⟨t, ht, -⟩ := State.frames_cons hr
      show ({ U with heap := s₂.heap, slotsUsed := s₂.slotsUsed } : State) = { U.setFrames U.frames with heap := s₂.heap, slotsUsed := s₂.slotsUsed }
      rw [State.setFrames_self ht]
    subst hg
    refine Or.inr ⟨q, ⟨(({ U with heap := s₂.heap, slotsUsed := s₂.slotsUsed } : State).setVm s₂.vm), Ls ++ L, c0 + mc, s0 + ms⟩,
      ⟨X.admits, X.cas, X.clock, X.frames, X.room, X.hears, X.method, X.code, (X.here.setHeapUsed s₂.heap s₂.slotsUsed).setVm hW'.alike, X.tail, State.WarmedH.trans X.warmed hW', X.limits, X.bytes, X.same.trans (hsame.setVm s.vm)⟩,
      ⟨g, mk, s₂, L, E, ce, rfl, rfl, hx, hce, hcv, hcl, rfl, hL, rfl, rfl⟩, ?_⟩
    show Steps p.tables e below _ (((({ U with heap := s₂.heap, slotsUsed := s₂.slotsUsed } : State).setVm s₂.vm).setTop g).pushFrame (.throwing q))
    rw [← hs₂]
    exact hsteps
end Payer
section Calls
variable {p : Program} {l : Launch} {e : Env} {R : Room} {s : State} {m : MethodId} {args : Array Value} {below : List Frame} {meth : Method} {c : Code} {T : State} {locs : List Loc} {cells slots : Nat}
theorem vx_callV (X : Stand p l e R s m args below meth c T locs cells slots) (hexec : p.tables.exec = Jvm.exec) {own C : String} {index : Nat} {y : MethodName} {bytes : ByteArray} {maxL : Nat} {ret : Option FieldType}
    (hown : s.vm.findClass own = some m.cls) (hlink : (Cond.methodLink own index y).before args s = true) (hinst : (Cond.instanceMethod y).before args s = true) (hsel : (Cond.selects C y y).before args s = true)
    (hcode : (Cond.code y bytes maxL ret).before args s = true) (hy : y.cls ≠ "java/lang/invoke/MethodHandle" ∧ y.cls ≠ "java/lang/invoke/VarHandle")
    {W9 : Nat} {Pre : Pt → Array Value → Prop} {Post : Pt → Array Value → Option Value → Pt → Prop} {PostX : Pt → Array Value → Addr → Pt → Prop} (hK : vx_Back l R p e below s args y 3 W9 Pre Post PostX)
    {b : Addr} {cellB : Cell} (hcell : T.heap[b]? = some cellB) (hobj : cellB.vm.isStatics = false) (hcls : s.vm.findClass C = some cellB.cls)
    {g : JFrame} (hg : g.method = m) (hsize : g.locals.size = c.maxLocals) {argsL rest : List Value} (hlen : ∀ sig, parseMethodDescriptor y.desc = some sig → argsL.length = sig.parameters.length)
    (hstack : g.stack = argsL.reverse ++ .ref b :: rest) (hW : 2 * g.monitorRoom + (rest.map fun v => v.category).sum ≤ W9) (hdg : decode c.code g.pc = .ok (.invokevirtual index, 3))
    (hpre : ∀ vm₁, s.WarmedH vm₁ → Pre ⟨T.setVm vm₁, locs, cells, slots⟩ (Value.ref b :: argsL).toArray) :
    (∃ (v : Option Value) (vm₁ : Vm) (B : Pt), s.WarmedH vm₁ ∧ Stand p l e R s m args below meth c B.U B.locs B.cells B.slots ∧ Post ⟨T.setVm vm₁, locs, cells, slots⟩ (Value.ref b :: argsL).toArray v B ∧
      ∀ target, Steps p.tables e below (B.U.setTop { g with pc := g.pc + 3, stack := v.toList ++ rest }) target → Steps p.tables e below (T.setTop g) target) ∨
    (∃ (q : Addr) (vm₁ : Vm) (B : Pt), s.WarmedH vm₁ ∧ Stand p l e R s m args below meth c B.U B.locs B.cells B.slots ∧ PostX ⟨T.setVm vm₁, locs, cells, slots⟩ (Value.ref b :: argsL).toArray q B ∧
      Steps p.tables e below (T.setTop g) ((B.U.setTop { g with stack := rest }).pushFrame (.throwing q))) := by
  obtain ⟨mk, methM, hnamed, hmethM, hstM, habM⟩ := Cond.instanceMethod_spec hinst
  obtain ⟨methM', cM, hmethM', -, -, -, -, -, -, hsigM⟩ := Cond.code_spec hnamed hcode
  cases hmethM.symm.trans hmethM'
  obtain ⟨c2, r2, m2, q1, q2, q3, q4, kP, hkP, hkPi⟩ := Cond.selects_spec hsel
  cases hcls.symm.trans q1
  cases (State.methodFound?_of_named hnamed hy).symm.trans q2
  cases hnamed.symm.trans q3
  have hselP : selectMethod e.platform s.vm cellB.cls mk = .method mk := by rw [Launch.admits_selectMethod X.admits]; exact q4
  obtain ⟨vm₁, X₁, hstep₁⟩ := X.invokevirtual hexec hown hlink hnamed hmethM hstM hkP hkPi hy (a := b) (cell := cellB) hcell
    (fun z h => by rw [h] at hobj; cases hobj) hselP hmethM habM hkP hkPi (g := g) hg (argsL := argsL) (rest := rest) (hlen _ hsigM) hstack hdg
  rcases hK m meth c ⟨T.setVm vm₁, locs, cells, slots⟩ { g with stack := rest } (.invokevirtual index) mk (Value.ref b :: argsL).toArray X₁ hg hsize hdg hW (X₁.named hnamed) (hpre vm₁ X₁.warmed) with ⟨v, B, X', hpost, hsteps⟩ | ⟨q, B, X', hpost, hsteps⟩
  · exact Or.inl ⟨v, vm₁, B, X₁.warmed, X', hpost, fun target h => hstep₁ _ fun acts => by rw [doInvoke_state]; exact hsteps.trans h⟩
  · exact Or.inr ⟨q, vm₁, B, X₁.warmed, X', hpost, hstep₁ _ fun acts => by rw [doInvoke_state]; exact hsteps⟩
theorem vx_callS (X : Stand p l e R s m args below meth c T locs cells slots) (hexec : p.tables.exec = Jvm.exec) {own : String} {index : Nat} {y : MethodName} {bytes : ByteArray} {maxL : Nat} {ret : Option FieldType}
    (hown : s.vm.findClass own = some m.cls) (hlink : (Cond.methodLink own index y).before args s = true) (hstat : (Cond.static y).before args s = true) (hinit : (Cond.initialized y.cls).before args s = true)
    (hcode : (Cond.code y bytes maxL ret).before args s = true) (hy : y.cls ≠ "java/lang/invoke/MethodHandle" ∧ y.cls ≠ "java/lang/invoke/VarHandle")
    {W9 : Nat} {Pre : Pt → Array Value → Prop} {Post : Pt → Array Value → Option Value → Pt → Prop} {PostX : Pt → Array Value → Addr → Pt → Prop} (hK : vx_Back l R p e below s args y 3 W9 Pre Post PostX)
    {g : JFrame} (hg : g.method = m) (hsize : g.locals.size = c.maxLocals) {argsL rest : List Value} (hlen : ∀ sig, parseMethodDescriptor y.desc = some sig → argsL.length = sig.parameters.length)
    (hstack : g.stack = argsL.reverse ++ rest) (hW : 2 * g.monitorRoom + (rest.map fun v => v.category).sum ≤ W9) (hdg : decode c.code g.pc = .ok (.invokestatic index, 3))
    (hpre : ∀ vm₁, s.WarmedH vm₁ → Pre ⟨T.setVm vm₁, locs, cells, slots⟩ argsL.toArray) :
    (∃ (v : Option Value) (vm₁ : Vm) (B : Pt), s.WarmedH vm₁ ∧ Stand p l e R s m args below meth c B.U B.locs B.cells B.slots ∧ Post ⟨T.setVm vm₁, locs, cells, slots⟩ argsL.toArray v B ∧
      ∀ target, Steps p.tables e below (B.U.setTop { g with pc := g.pc + 3, stack := v.toList ++ rest }) target → Steps p.tables e below (T.setTop g) target) ∨
    (∃ (q : Addr) (vm₁ : Vm) (B : Pt), s.WarmedH vm₁ ∧ Stand p l e R s m args below meth c B.U B.locs B.cells B.slots ∧ PostX ⟨T.setVm vm₁, locs, cells, slots⟩ argsL.toArray q B ∧
      Steps p.tables e below (T.setTop g) ((B.U.setTop { g with stack := rest }).pushFrame (.throwing q))) := by
  obtain ⟨mk, hnamed⟩ := Cond.code_named hcode
  obtain ⟨methM, cM, hmethM, -, -, -, -, -, -, hsigM⟩ := Cond.code_spec hnamed hcode
  have hstatic : methM.isStatic = true := Cond.static_spec hnamed hmethM hstat
  obtain ⟨kP, hkP, -⟩ := className_of_methodNamed hnamed
  have hinitP : kP.init = .initialized := Cond.initialized_spec (findClass_of_methodNamed hnamed) hkP hinit
  obtain ⟨vm₁, X₁, hstep₁⟩ := X.invokestatic hexec hown hlink hnamed hmethM hstatic hkP hinitP hy (g := g) hg (argsL := argsL) (rest := rest) (hlen _ hsigM) hstack hdg
  rcases hK m meth c ⟨T.setVm vm₁, locs, cells, slots⟩ { g with stack := rest } (.invokestatic index) mk argsL.toArray X₁ hg hsize hdg hW (X₁.named hnamed) (hpre vm₁ X₁.warmed) with ⟨v, B, X', hpost, hsteps⟩ | ⟨q, B, X', hpost, hsteps⟩
  · exact Or.inl ⟨v, vm₁, B, X₁.warmed, X', hpost, fun target h => hstep₁ _ fun acts => by rw [doInvoke_state]; exact hsteps.trans h⟩
  · exact Or.inr ⟨q, vm₁, B, X₁.warmed, X', hpost, hstep₁ _ fun acts => by rw [doInvoke_state]; exact hsteps⟩
end Calls
theorem vx_cls {s : State} {T : State} {vm₁ : Vm} {E : String} {k : ClassId} (hW : s.WarmedH vm₁) (h : (T.setVm vm₁).vm.findClass E = some k) : s.vm.findClass E = some k := by
  have h1 : vm₁.findClass E = some k := h
  rw [hW.alike.findClass] at h1
  exact h1
/-- the method's frame g, with q thrown over it -/
def vx_W (p : Program) (l : Launch) (e : Env) (R : Room) (s : State) (m : MethodId) (args : Array Value) (below : List Frame) (meth : Method) (c : Code) (H : Heap) (locs : List Loc) (cells slots : Nat) (Q : State → Prop) (g : JFrame) (q : Addr) : Prop :=
  ∀ T : State, T.heap = H → Stand p l e R s m args below meth c T locs cells slots → ∃ t, Steps p.tables e below ((T.setTop g).pushFrame (.throwing q)) t ∧ Q t
def vx_Run (p : Program) (l : Launch) (e : Env) (R : Room) (s : State) (m : MethodId) (args : Array Value) (below : List Frame) (meth : Method) (c : Code) (H : Heap) (locs : List Loc) (cells slots mc ms : Nat) (g : JFrame) (rest : List Value) (Qa : State → Outcome → State → Prop) (XC : String → State → State → Prop) (free : Addr → Prop) : Prop :=
  ∀ T : State, T.heap = H → Stand p l e R s m args below meth c T locs cells slots →
    (∃ (v : Option Value) (st₀ t T' : State) (L : List Loc), st₀.heap = H ∧ Stand p l e R s m args below meth c T' (locs ++ L) (cells + mc) (slots + ms) ∧ (∀ q ∈ L, free q.base) ∧ T'.heap = t.heap ∧ T'.vm = t.vm ∧ Qa st₀ (.returned v) t ∧
      Goes p e below T g T' { g with pc := g.pc + 3, stack := v.toList ++ rest }) ∨
    (∃ (q : Addr) (st₀ t T' : State) (L : List Loc) (E : String) (ce : Cell), st₀.heap = H ∧ Stand p l e R s m args below meth c T' (locs ++ L) (cells + mc) (slots + ms) ∧ (∀ z ∈ L, free z.base) ∧ T'.heap = t.heap ∧ T'.vm = t.vm ∧ XC E st₀ t ∧ t.heap[q]? = some ce ∧ ce.vm = .none ∧ s.vm.findClass E = some ce.cls ∧
      Steps p.tables e below (T.setTop g) ((T'.setTop { g with stack := rest }).pushFrame (.throwing q)))
def vx_X {S : Type} (px : S → Prop) (B : String → S → State → Prop) (A : Nat → Prop) : String → State → State → Prop := fun E st t => ∃ u : S, px u ∧ B E u t ∧ va_F A st t
section Runs
variable {p : Program} {l : Launch} {e : Env} {R : Room} {s : State} {m : MethodId} {args : Array Value} {below : List Frame} {meth : Method} {c : Code} {H : Heap} {locs : List Loc} {cells slots : Nat}
variable {y : MethodName} {bytes cc : ByteArray} {maxL nL mc ms n index : Nat} {ret : Option FieldType} {ws : List Cond} {rm : Room} {Pc : Array Value → State → Prop} {Qc : Array Value → State → Outcome → State → Prop} {XC : String → State → State → Prop} {free : Addr → Prop} {Ts : List Cond} {own C : String} {b : Addr} {As rest : List Value} {g : JFrame}
theorem vx_callBack (cb : CallB R s args own index y bytes maxL ret ws rm mc ms n) (hM : vx_Met l y ws rm Pc Qc XC mc ms free) (hbl : FrameBlind Pc) : vx_Back l R p e below s args y 3 8 (PreOf R mc ms Pc) (PostOf Qc mc ms free) (vx_Post XC mc ms free) := by
  obtain ⟨hrc, hrs, hfr, hlo, hws, hcw, -, hini, -⟩ := cb
  exact vx_back (bytes := bytes) (maxL := maxL) (ret := ret) hM hbl hrc hrs hfr hlo hws hcw (fun a' U hW => word_at hW (Or.inl (by first | rfl | simp [Cond.onTables, Cond.keeps, Cond.steady])) hini)
theorem vx_runV (S : CallFix p m c cc nL s args Ts own) (hM : vx_Met l y ws rm Pc Qc XC mc ms free) (cw : CallW R s args own C index y bytes maxL ret ws rm mc ms n) (hp : PreV s H C b Pc As)
    (hg : g.method = m) (hn : As.length = n) (hsize : g.locals.size = nL) (hstack : g.stack = As.reverse ++ .ref b :: rest) (hW : 2 * g.monitorRoom + (rest.map fun v => v.category).sum ≤ 8) (hdg : decode cc g.pc = .ok (.invokevirtual index, 3)) (hf : cells + mc ≤ R.cells ∧ slots + ms ≤ R.slots) :
    vx_Run p l e R s m args below meth c H locs cells slots mc ms g rest (Qc (Value.ref b :: As).toArray) XC free := by
  have hK : vx_Back l R p e below s args y 3 8 (PreOf R mc ms Pc) (PostOf Qc mc ms free) (vx_Post XC mc ms free) := vx_callBack cw.1 hM hp.1
  obtain ⟨⟨-, -, -, -, -, -, hcode, -, hy, hlen, hl⟩, hin, hse⟩ := cw
  obtain ⟨hx, hb, hml, ho, -⟩ := S
  obtain ⟨-, ⟨cellB, hcB, hoB, hclB⟩, hPc⟩ := hp
  intro T hT X
  rcases vx_callV X hx (C := C) (bytes := bytes) (maxL := maxL) (ret := ret) ho hl hin hse hcode hy hK (by rw [hT]; exact hcB) hoB hclB hg (hsize.trans hml.symm) (argsL := As) (rest := rest) (fun sig h => hn.trans (hlen sig h)) hstack hW (by rw [hb]; exact hdg)
    (fun vm₁ hW₁ => ⟨hf.1, hf.2, hPc (T.setVm vm₁) hT hW₁⟩) with ⟨v, vm₁, ⟨U', l2, c2, s2⟩, hW₁, X', ⟨g', mk, t, L, e1, e2, hq, h1, hL, h2, h3⟩, st⟩ | ⟨q, vm₁, ⟨U', l2, c2, s2⟩, hW₁, X', ⟨g', mk, t, L, E, ce, e1, e2, hq, hce, hcv, hcl, h1, hL, h2, h3⟩, st⟩
  · dsimp only [Pt.U, Pt.locs, Pt.cells, Pt.slots] at X' e1 e2 h1 h2 h3 st
    subst h1; subst h2; subst h3
    exact Or.inl ⟨v, (T.setVm vm₁).calling g' mk (Value.ref b :: As).toArray, t, U', L, hT, X', hL, e1, e2, hq, st⟩
  · dsimp only [Pt.U, Pt.locs, Pt.cells, Pt.slots] at X' e1 e2 h1 h2 h3 st hcl
    subst h1; subst h2; subst h3
    exact Or.inr ⟨q, (T.setVm vm₁).calling g' mk (Value.ref b :: As).toArray, t, U', L, E, ce, hT, X', hL, e1, e2, hq, hce, hcv, vx_cls hW₁ hcl, st⟩
theorem vx_runS (S : CallFix p m c cc nL s args Ts own) (hM : vx_Met l y ws rm Pc Qc XC mc ms free) (cw : CallB R s args own index y bytes maxL ret ws rm mc ms n ∧ (Cond.static y).before args s = true) (hp : PreS s H Pc As)
    (hg : g.method = m) (hn : As.length = n) (hsize : g.locals.size = nL) (hstack : g.stack = As.reverse ++ rest) (hW : 2 * g.monitorRoom + (rest.map fun v => v.category).sum ≤ 8) (hdg : decode cc g.pc = .ok (.invokestatic index, 3)) (hf : cells + mc ≤ R.cells ∧ slots + ms ≤ R.slots) :
    vx_Run p l e R s m args below meth c H locs cells slots mc ms g rest (Qc As.toArray) XC free := by
  have hK : vx_Back l R p e below s args y 3 8 (PreOf R mc ms Pc) (PostOf Qc mc ms free) (vx_Post XC mc ms free) := vx_callBack cw.1 hM hp.1
  obtain ⟨⟨-, -, -, -, -, -, hcode, hini, hy, hlen, hl⟩, hstt⟩ := cw
  obtain ⟨hx, hb, hml, ho, -⟩ := S
  intro T hT X
  rcases vx_callS X hx (bytes := bytes) (maxL := maxL) (ret := ret) ho hl hstt hini hcode hy hK hg (hsize.trans hml.symm) (argsL := As) (rest := rest) (fun sig h => hn.trans (hlen sig h)) hstack hW (by rw [hb]; exact hdg)
    (fun vm₁ hW₁ => ⟨hf.1, hf.2, hp.2 (T.setVm vm₁) hT hW₁⟩) with ⟨v, vm₁, ⟨U', l2, c2, s2⟩, hW₁, X', ⟨g', mk, t, L, e1, e2, hq, h1, hL, h2, h3⟩, st⟩ | ⟨q, vm₁, ⟨U', l2, c2, s2⟩, hW₁, X', ⟨g', mk, t, L, E, ce, e1, e2, hq, hce, hcv, hcl, h1, hL, h2, h3⟩, st⟩
  · dsimp only [Pt.U, Pt.locs, Pt.cells, Pt.slots] at X' e1 e2 h1 h2 h3 st
    subst h1; subst h2; subst h3
    exact Or.inl ⟨v, (T.setVm vm₁).calling g' mk As.toArray, t, U', L, hT, X', hL, e1, e2, hq, st⟩
  · dsimp only [Pt.U, Pt.locs, Pt.cells, Pt.slots] at X' e1 e2 h1 h2 h3 st hcl
    subst h1; subst h2; subst h3
    exact Or.inr ⟨q, (T.setVm vm₁).calling g' mk As.toArray, t, U', L, E, ce, hT, X', hL, e1, e2, hq, hce, hcv, vx_cls hW₁ hcl, st⟩
end Runs
section Rows
variable {p : Program} {l : Launch} {e : Env} {R : Room} {s : State} {m : MethodId} {args : Array Value} {below : List Frame} {meth : Method} {c : Code} {H : Heap} {locs : List Loc} {cells slots : Nat} {Q : State → Prop}
variable {mc ms : Nat} {free : Addr → Prop} {A0 A1 : Nat → Prop} {H0 : Heap} {a : Array Value} {pc : Nat} {ls : Array Slot} {st0 rest : List Value}
theorem vx_keep {st₀ t T' : State} {L : List Loc} (h0 : st₀.heap = H) (e1 : T'.heap = t.heap) (hS : va_S A0 H0 H locs) (hA : ∀ q, q < H.size → A1 q → A0 q) (hf : ∀ q, free q → A0 q) (hL : ∀ q ∈ L, free q.base) (hF : va_F A1 st₀ t) :
    H.size ≤ T'.heap.size ∧ (∀ q : Nat, q < H.size → ¬ A1 q → T'.heap[q]? = H[q]?) ∧ va_S A0 H0 T'.heap (locs ++ L) := by
  obtain ⟨hz, hk⟩ := hF
  rw [h0] at hz hk
  exact ⟨by rw [e1]; exact hz, fun q h1 h2 => by rw [e1]; exact hk q h1 h2,
    ⟨Nat.le_trans hS.1 (by rw [e1]; exact hz), fun q h1 h2 => by rw [e1, hk q (Nat.lt_of_lt_of_le h1 hS.1) (fun z => h2 (hA q (Nat.lt_of_lt_of_le h1 hS.1) z))]; exact hS.2.1 q h1 h2, fun q hq => by
      rcases List.mem_append.mp hq with h | h
      · exact hS.2.2 q h
      · exact hf _ (hL q h)⟩⟩
theorem vx_calli {S SX : Type} {post : Int32 → S → Prop} {px : SX → Prop} {B : S → State → Prop} {BX : String → SX → State → Prop} {AX : Nat → Prop} (hr : vx_Run p l e R s m args below meth c H locs cells slots mc ms (F0 m pc ls st0) rest (va_Qi post B A1 a) (vx_X px BX AX) free) (hS : va_S A0 H0 H locs) (hA : ∀ q, q < H.size → A1 q → A0 q) (hf : ∀ q, free q → A0 q) (hAX : ∀ q, q < H.size → AX q → A0 q)
    (kx : ∀ (E : String) (ce : Cell) (q9 : Addr) (u : SX) (t : State) (H1 : Heap) (locs1 : List Loc), t.heap = H1 → s.vm.Alike t.vm → px u → BX E u t → H.size ≤ H1.size → (∀ q : Nat, q < H.size → ¬ AX q → H1[q]? = H[q]?) → va_S A0 H0 H1 locs1 → H1[q9]? = some ce → ce.vm = .none → s.vm.findClass E = some ce.cls → vx_W p l e R s m args below meth c H1 locs1 (cells + mc) (slots + ms) Q (F0 m pc ls rest) q9)
    (kk : ∀ (r : Int32) (u : S) (t : State) (H1 : Heap) (locs1 : List Loc), t.heap = H1 → s.vm.Alike t.vm → post r u → B u t → H.size ≤ H1.size → (∀ q : Nat, q < H.size → ¬ A1 q → H1[q]? = H[q]?) → va_S A0 H0 H1 locs1 → W p l e R s m args below meth c H1 locs1 (cells + mc) (slots + ms) Q (F0 m (pc + 3) ls (.int r :: rest))) : W p l e R s m args below meth c H locs cells slots Q (F0 m pc ls st0) := by
  intro T hT X
  rcases hr T hT X with ⟨v, st₀, t, T', L, h0, X', hL, e1, e2, ⟨⟨r, u, hv, hp, hb⟩, hF⟩, st⟩ | ⟨q, st₀, t, T', L, E, ce, h0, X', hL, e1, e2, ⟨u, hp, hb, hF⟩, hce, hcv, hcl, st⟩
  · cases hv
    obtain ⟨k1, k2, k3⟩ := vx_keep h0 e1 hS hA hf hL hF
    obtain ⟨t2, a1, b1⟩ := kk r u t T'.heap (locs ++ L) e1.symm (by rw [← e2]; exact X'.warmed.alike) hp hb k1 k2 k3 T' rfl X'
    exact ⟨t2, st t2 a1, b1⟩
  · obtain ⟨k1, k2, k3⟩ := vx_keep h0 e1 hS hAX hf hL hF
    obtain ⟨t2, a1, b1⟩ := kx E ce q u t T'.heap (locs ++ L) e1.symm (by rw [← e2]; exact X'.warmed.alike) hp hb k1 k2 k3 (by rw [e1]; exact hce) hcv hcl T' rfl X'
    exact ⟨t2, st.trans a1, b1⟩
theorem vx_calll {S SX : Type} {post : Int64 → S → Prop} {px : SX → Prop} {B : S → State → Prop} {BX : String → SX → State → Prop} {AX : Nat → Prop} (hr : vx_Run p l e R s m args below meth c H locs cells slots mc ms (F0 m pc ls st0) rest (va_Ql post B A1 a) (vx_X px BX AX) free) (hS : va_S A0 H0 H locs) (hA : ∀ q, q < H.size → A1 q → A0 q) (hf : ∀ q, free q → A0 q) (hAX : ∀ q, q < H.size → AX q → A0 q)
    (kx : ∀ (E : String) (ce : Cell) (q9 : Addr) (u : SX) (t : State) (H1 : Heap) (locs1 : List Loc), t.heap = H1 → s.vm.Alike t.vm → px u → BX E u t → H.size ≤ H1.size → (∀ q : Nat, q < H.size → ¬ AX q → H1[q]? = H[q]?) → va_S A0 H0 H1 locs1 → H1[q9]? = some ce → ce.vm = .none → s.vm.findClass E = some ce.cls → vx_W p l e R s m args below meth c H1 locs1 (cells + mc) (slots + ms) Q (F0 m pc ls rest) q9)
    (kk : ∀ (r : Int64) (u : S) (t : State) (H1 : Heap) (locs1 : List Loc), t.heap = H1 → s.vm.Alike t.vm → post r u → B u t → H.size ≤ H1.size → (∀ q : Nat, q < H.size → ¬ A1 q → H1[q]? = H[q]?) → va_S A0 H0 H1 locs1 → W p l e R s m args below meth c H1 locs1 (cells + mc) (slots + ms) Q (F0 m (pc + 3) ls (.long r :: rest))) : W p l e R s m args below meth c H locs cells slots Q (F0 m pc ls st0) := by
  intro T hT X
  rcases hr T hT X with ⟨v, st₀, t, T', L, h0, X', hL, e1, e2, ⟨⟨r, u, hv, hp, hb⟩, hF⟩, st⟩ | ⟨q, st₀, t, T', L, E, ce, h0, X', hL, e1, e2, ⟨u, hp, hb, hF⟩, hce, hcv, hcl, st⟩
  · cases hv
    obtain ⟨k1, k2, k3⟩ := vx_keep h0 e1 hS hA hf hL hF
    obtain ⟨t2, a1, b1⟩ := kk r u t T'.heap (locs ++ L) e1.symm (by rw [← e2]; exact X'.warmed.alike) hp hb k1 k2 k3 T' rfl X'
    exact ⟨t2, st t2 a1, b1⟩
  · obtain ⟨k1, k2, k3⟩ := vx_keep h0 e1 hS hAX hf hL hF
    obtain ⟨t2, a1, b1⟩ := kx E ce q u t T'.heap (locs ++ L) e1.symm (by rw [← e2]; exact X'.warmed.alike) hp hb k1 k2 k3 (by rw [e1]; exact hce) hcv hcl T' rfl X'
    exact ⟨t2, st.trans a1, b1⟩
theorem vx_callf {S SX : Type} {post : UInt32 → S → Prop} {px : SX → Prop} {B : S → State → Prop} {BX : String → SX → State → Prop} {AX : Nat → Prop} (hr : vx_Run p l e R s m args below meth c H locs cells slots mc ms (F0 m pc ls st0) rest (va_Qf post B A1 a) (vx_X px BX AX) free) (hS : va_S A0 H0 H locs) (hA : ∀ q, q < H.size → A1 q → A0 q) (hf : ∀ q, free q → A0 q) (hAX : ∀ q, q < H.size → AX q → A0 q)
    (kx : ∀ (E : String) (ce : Cell) (q9 : Addr) (u : SX) (t : State) (H1 : Heap) (locs1 : List Loc), t.heap = H1 → s.vm.Alike t.vm → px u → BX E u t → H.size ≤ H1.size → (∀ q : Nat, q < H.size → ¬ AX q → H1[q]? = H[q]?) → va_S A0 H0 H1 locs1 → H1[q9]? = some ce → ce.vm = .none → s.vm.findClass E = some ce.cls → vx_W p l e R s m args below meth c H1 locs1 (cells + mc) (slots + ms) Q (F0 m pc ls rest) q9)
    (kk : ∀ (r : UInt32) (u : S) (t : State) (H1 : Heap) (locs1 : List Loc), t.heap = H1 → s.vm.Alike t.vm → post r u → B u t → H.size ≤ H1.size → (∀ q : Nat, q < H.size → ¬ A1 q → H1[q]? = H[q]?) → va_S A0 H0 H1 locs1 → W p l e R s m args below meth c H1 locs1 (cells + mc) (slots + ms) Q (F0 m (pc + 3) ls (.float r :: rest))) : W p l e R s m args below meth c H locs cells slots Q (F0 m pc ls st0) := by
  intro T hT X
  rcases hr T hT X with ⟨v, st₀, t, T', L, h0, X', hL, e1, e2, ⟨⟨r, u, hv, hp, hb⟩, hF⟩, st⟩ | ⟨q, st₀, t, T', L, E, ce, h0, X', hL, e1, e2, ⟨u, hp, hb, hF⟩, hce, hcv, hcl, st⟩
  · cases hv
    obtain ⟨k1, k2, k3⟩ := vx_keep h0 e1 hS hA hf hL hF
    obtain ⟨t2, a1, b1⟩ := kk r u t T'.heap (locs ++ L) e1.symm (by rw [← e2]; exact X'.warmed.alike) hp hb k1 k2 k3 T' rfl X'
    exact ⟨t2, st t2 a1, b1⟩
  · obtain ⟨k1, k2, k3⟩ := vx_keep h0 e1 hS hAX hf hL hF
    obtain ⟨t2, a1, b1⟩ := kx E ce q u t T'.heap (locs ++ L) e1.symm (by rw [← e2]; exact X'.warmed.alike) hp hb k1 k2 k3 (by rw [e1]; exact hce) hcv hcl T' rfl X'
    exact ⟨t2, st.trans a1, b1⟩
theorem vx_calld {S SX : Type} {post : UInt64 → S → Prop} {px : SX → Prop} {B : S → State → Prop} {BX : String → SX → State → Prop} {AX : Nat → Prop} (hr : vx_Run p l e R s m args below meth c H locs cells slots mc ms (F0 m pc ls st0) rest (va_Qd post B A1 a) (vx_X px BX AX) free) (hS : va_S A0 H0 H locs) (hA : ∀ q, q < H.size → A1 q → A0 q) (hf : ∀ q, free q → A0 q) (hAX : ∀ q, q < H.size → AX q → A0 q)
    (kx : ∀ (E : String) (ce : Cell) (q9 : Addr) (u : SX) (t : State) (H1 : Heap) (locs1 : List Loc), t.heap = H1 → s.vm.Alike t.vm → px u → BX E u t → H.size ≤ H1.size → (∀ q : Nat, q < H.size → ¬ AX q → H1[q]? = H[q]?) → va_S A0 H0 H1 locs1 → H1[q9]? = some ce → ce.vm = .none → s.vm.findClass E = some ce.cls → vx_W p l e R s m args below meth c H1 locs1 (cells + mc) (slots + ms) Q (F0 m pc ls rest) q9)
    (kk : ∀ (r : UInt64) (u : S) (t : State) (H1 : Heap) (locs1 : List Loc), t.heap = H1 → s.vm.Alike t.vm → post r u → B u t → H.size ≤ H1.size → (∀ q : Nat, q < H.size → ¬ A1 q → H1[q]? = H[q]?) → va_S A0 H0 H1 locs1 → W p l e R s m args below meth c H1 locs1 (cells + mc) (slots + ms) Q (F0 m (pc + 3) ls (.double r :: rest))) : W p l e R s m args below meth c H locs cells slots Q (F0 m pc ls st0) := by
  intro T hT X
  rcases hr T hT X with ⟨v, st₀, t, T', L, h0, X', hL, e1, e2, ⟨⟨r, u, hv, hp, hb⟩, hF⟩, st⟩ | ⟨q, st₀, t, T', L, E, ce, h0, X', hL, e1, e2, ⟨u, hp, hb, hF⟩, hce, hcv, hcl, st⟩
  · cases hv
    obtain ⟨k1, k2, k3⟩ := vx_keep h0 e1 hS hA hf hL hF
    obtain ⟨t2, a1, b1⟩ := kk r u t T'.heap (locs ++ L) e1.symm (by rw [← e2]; exact X'.warmed.alike) hp hb k1 k2 k3 T' rfl X'
    exact ⟨t2, st t2 a1, b1⟩
  · obtain ⟨k1, k2, k3⟩ := vx_keep h0 e1 hS hAX hf hL hF
    obtain ⟨t2, a1, b1⟩ := kx E ce q u t T'.heap (locs ++ L) e1.symm (by rw [← e2]; exact X'.warmed.alike) hp hb k1 k2 k3 (by rw [e1]; exact hce) hcv hcl T' rfl X'
    exact ⟨t2, st.trans a1, b1⟩
theorem vx_callv {S SX : Type} {post : S → Prop} {px : SX → Prop} {B : S → State → Prop} {BX : String → SX → State → Prop} {AX : Nat → Prop} (hr : vx_Run p l e R s m args below meth c H locs cells slots mc ms (F0 m pc ls st0) rest (va_Qv post B A1 a) (vx_X px BX AX) free) (hS : va_S A0 H0 H locs) (hA : ∀ q, q < H.size → A1 q → A0 q) (hf : ∀ q, free q → A0 q) (hAX : ∀ q, q < H.size → AX q → A0 q)
    (kx : ∀ (E : String) (ce : Cell) (q9 : Addr) (u : SX) (t : State) (H1 : Heap) (locs1 : List Loc), t.heap = H1 → s.vm.Alike t.vm → px u → BX E u t → H.size ≤ H1.size → (∀ q : Nat, q < H.size → ¬ AX q → H1[q]? = H[q]?) → va_S A0 H0 H1 locs1 → H1[q9]? = some ce → ce.vm = .none → s.vm.findClass E = some ce.cls → vx_W p l e R s m args below meth c H1 locs1 (cells + mc) (slots + ms) Q (F0 m pc ls rest) q9)
    (kk : ∀ (u : S) (t : State) (H1 : Heap) (locs1 : List Loc), t.heap = H1 → s.vm.Alike t.vm → post u → B u t → H.size ≤ H1.size → (∀ q : Nat, q < H.size → ¬ A1 q → H1[q]? = H[q]?) → va_S A0 H0 H1 locs1 → W p l e R s m args below meth c H1 locs1 (cells + mc) (slots + ms) Q (F0 m (pc + 3) ls (rest))) : W p l e R s m args below meth c H locs cells slots Q (F0 m pc ls st0) := by
  intro T hT X
  rcases hr T hT X with ⟨v, st₀, t, T', L, h0, X', hL, e1, e2, ⟨⟨u, hv, hp, hb⟩, hF⟩, st⟩ | ⟨q, st₀, t, T', L, E, ce, h0, X', hL, e1, e2, ⟨u, hp, hb, hF⟩, hce, hcv, hcl, st⟩
  · cases hv
    obtain ⟨k1, k2, k3⟩ := vx_keep h0 e1 hS hA hf hL hF
    obtain ⟨t2, a1, b1⟩ := kk u t T'.heap (locs ++ L) e1.symm (by rw [← e2]; exact X'.warmed.alike) hp hb k1 k2 k3 T' rfl X'
    exact ⟨t2, st t2 a1, b1⟩
  · obtain ⟨k1, k2, k3⟩ := vx_keep h0 e1 hS hAX hf hL hF
    obtain ⟨t2, a1, b1⟩ := kx E ce q u t T'.heap (locs ++ L) e1.symm (by rw [← e2]; exact X'.warmed.alike) hp hb k1 k2 k3 (by rw [e1]; exact hce) hcv hcl T' rfl X'
    exact ⟨t2, st.trans a1, b1⟩
/-- caught by the row x of this method's table; the rows ahead don't take it -/
theorem vx_catch {own name : String} {E : String} {ce : Cell} {q : Addr} (hown : s.vm.findClass own = some m.cls) (pre : List ExceptionTableEntry) (x : ExceptionTableEntry) (suf : List ExceptionTableEntry) (hsplit : c.exceptionTable.toList = pre ++ x :: suf)
    (hpass : ∀ z ∈ pre, covers z pc = false ∨ (z.catchType ≠ 0 ∧ ∃ nm : String, (Cond.classLink own z.catchType nm).before args s = true ∧ va_Nc E nm s)) (hx : covers x pc = true) (h0 : x.catchType ≠ 0)
    (hlink : (Cond.classLink own x.catchType name).before args s = true) (hcast : (Cond.castable E name).before args s = true) (hcell : H[q]? = some ce) (hv : ce.vm = .none) (hcl : s.vm.findClass E = some ce.cls)
    (kk : W p l e R s m args below meth c H locs cells slots Q (F0 m x.handlerPc ls [.ref q])) : vx_W p l e R s m args below meth c H locs cells slots Q (F0 m pc ls rest) q := by
  intro T hT X
  have hpl : e.platform.magicAccessors = ({} : Platform).magicAccessors := by rw [X.admits.platform]
  obtain ⟨c3, c4, hc3, hc4, hasg⟩ := Cond.castable_spec hcast
  cases Option.some.inj (hc3.symm.trans hcl)
  obtain ⟨c5, hc5, hcl5⟩ := Cond.classLink_spec hown hlink e.platform hpl
  cases Option.some.inj (hc4.symm.trans hc5)
  obtain ⟨vm', X', st⟩ := X.thenCaughtThrough q (g := F0 m pc ls rest) rfl (Steps.refl _) (by rw [hT]; exact hcell) (by rw [hv]; rfl) (by obtain ⟨k9, h9, -⟩ := Vm.findClass_spec hcl; exact ⟨k9, h9⟩) pre x suf hsplit
    (fun z hz => by
      rcases hpass z hz with h | ⟨hz0, nm, hl1, hn1⟩
      · exact Or.inl h
      · obtain ⟨c6, hc6, hcl6⟩ := Cond.classLink_spec hown hl1 e.platform hpl
        obtain ⟨a8, b8, h1, h2, h3⟩ := hn1
        cases Option.some.inj (h1.symm.trans hcl)
        cases Option.some.inj (h2.symm.trans hc6)
        exact Or.inr ⟨hz0, _, hcl6, h3⟩) hx (Or.inr ⟨h0, c4, hcl5, hasg⟩)
  obtain ⟨t, a1, b1⟩ := kk (T.setVm vm') hT X'
  exact ⟨t, st.trans a1, b1⟩
end Rows
section Ends
variable {p : Program} {l : Launch} {e : Env} {R : Room} {s : State} {m : MethodId} {args : Array Value} {below : List Frame} {meth : Method} {c : Code} {H : Heap} {locs : List Loc} {cells slots : Nat} {Q : State → Prop}
variable {mc ms : Nat} {free : Addr → Prop} {A0 A1 : Nat → Prop} {H0 : Heap} {a : Array Value} {ls : Array Slot} {st0 rest : List Value}
variable {Qc : Array Value → State → Outcome → State → Prop} {XC : String → State → State → Prop}
/-- what a body that may throw owes at its end -/
def vx_MQ (below : List Frame) (Qc : Array Value → State → Outcome → State → Prop) (XC : String → State → State → Prop) (a : Array Value) (s : State) (mc ms : Nat) (free : Addr → Prop) : State → Prop := fun t =>
  ∃ o, t.status = .running ∧ Ended t below o ∧ vx_Q Qc XC mc ms free a s o t
theorem vx_ret {g : JFrame} {mc ms : Nat} (k : W p l e R s m args below meth c H locs cells slots (MQ below Qc args s mc ms free) g) : W p l e R s m args below meth c H locs cells slots (vx_MQ below Qc XC args s mc ms free) g := by
  intro T hT X
  obtain ⟨t, a1, o, b1, b2, b3, b4⟩ := k T hT X
  exact ⟨t, a1, o, b1, b2, Or.inl ⟨b3, b4⟩⟩
/-- not caught here: it goes on to the caller -/
theorem vx_widen {g : JFrame} {q : Addr} {k n : Nat} (h1 : cells ≤ k) (h2 : slots ≤ n) (kk : vx_W p l e R s m args below meth c H locs k n Q g q) : vx_W p l e R s m args below meth c H locs cells slots Q g q := fun T hT X => kk T hT (stand_widen X h1 h2)
theorem vx_out {pc : Nat} {E : String} {ce : Cell} {q : Addr} {mc ms : Nat} (hout : ∀ x ∈ c.exceptionTable.toList, covers x pc = false) (hlocks : meth.locks = false) (hcell : H[q]? = some ce) (hv : ce.vm = .none) (hcl : s.vm.findClass E = some ce.cls)
    (hx : ∀ t : State, t.heap = H → s.vm.Alike t.vm → XC E s t) (hf : ∀ z ∈ locs, free z.base) (hc : cells ≤ mc) (hs : slots ≤ ms) :
    vx_W p l e R s m args below meth c H locs cells slots (vx_MQ below Qc XC args s mc ms free) (F0 m pc ls rest) q := by
  intro T hT X
  obtain ⟨st1, hrun, hend, hW, hsm⟩ := X.leaveThrown q (g := F0 m pc ls rest) rfl rfl rfl hout hlocks
  have hcell9 : (T.setFrames (.throwing q :: below)).heap[q]? = some ce := by
    show T.heap[q]? = some ce
    rw [hT]; exact hcell
  exact ⟨_, st1, .threw q, hrun, hend, Or.inr ⟨q, rfl, E, ce, locs, hx _ hT hW.alike, hcell9, hv, hcl, hW, hsm.mono hc hs, hf⟩⟩
theorem vx_frame {U : State} {k n : Nat} (h : s.sameButNew ({ U with vm := s.vm } : State) locs k n) : s.heap.size ≤ U.heap.size ∧ ∀ q : Nat, q < s.heap.size → (∀ z ∈ locs, z.base ≠ q) → U.heap[q]? = s.heap[q]? := by
  obtain ⟨-, h2, -, -, -, h6⟩ := h
  refine ⟨h2, fun q hq hz => ?_⟩
  obtain ⟨c9, e1, e2, e3, e4⟩ := h6 q _ (Array.getElem?_eq_getElem hq)
  have hs : c9.slots = (s.heap[q]).slots := Array.ext_getElem? fun i => e4 i fun hm => hz _ hm rfl
  have h9 : c9 = s.heap[q] := by
    rw [hs] at e2
    exact e2
  have e5 : U.heap[q]? = some c9 := e1
  rw [e5, h9, Array.getElem?_eq_getElem hq]
/-- the words of a throw but the four that speak of the heap -/
def vx_no (w : Cond) : Bool := decide (w ≠ .isRef (.static Bundle.tN "UNASSIGNED_STACK" Bundle.steD)) && decide (w ≠ .isRef (.static Bundle.tN "SUPPRESSED_SENTINEL" Bundle.listD)) && decide (w ≠ .laysStatic Bundle.tN "UNASSIGNED_STACK" Bundle.steD) && decide (w ≠ .laysStatic Bundle.tN "SUPPRESSED_SENTINEL" Bundle.listD)
def vx_at0 (own : String) (ic : Nat) (X : String) (names : List String) : List Cond := (Bundle.ownAtoms0 own ic X names).filter vx_no
def vx_atS (own : String) (ic : Nat) (X : String) (names : List String) : List Cond := (Bundle.ownAtoms own ic X names).filter vx_no
/-- a word that the tables alone decide, or a good one -/
def vx_ot (w : Cond) : Bool := w.onTables || goodWord w
theorem vx_ot_at {args a' : Array Value} {s U : State} {w : Cond} (hW : s.WarmedH U.vm) (hvm : s.vm = U.vm) (hg : vx_ot w = true) (h : w.before args s = true) : w.before a' U = true := by
  simp only [vx_ot, Bool.or_eq_true] at hg
  rcases hg with hg | hg
  · exact va_tabs hg hvm h
  · exact word_at hW (good_of_word hg) h
/-- a list's words: the good ones out of the method's own list, the others by premises of their own -/
theorem vx_hat {args : Array Value} {s : State} {L B : List Cond} (h1 : ∀ w ∈ L.filter goodWord, w.before args s = true) (h2 : ∀ w ∈ L.filter (fun w => !goodWord w), w ∈ B) (h3 : ∀ w ∈ B, w.before args s = true) : ∀ w ∈ L, w.before args s = true := by
  intro w hw
  by_cases g : goodWord w = true
  · exact h1 w (List.mem_filter.mpr ⟨hw, g⟩)
  · refine h3 w (h2 w (List.mem_filter.mpr ⟨hw, ?_⟩))
    show (!goodWord w) = true
    cases hgw : goodWord w
    · rfl
    · exact absurd hgw g
theorem vx_c {args : Array Value} {s : State} {w : Cond} {B : List Cond} (h : w.before args s = true) (t : ∀ w ∈ B, w.before args s = true) : ∀ w' ∈ w :: B, w'.before args s = true := fun w' h' => (List.mem_cons.mp h').elim (fun e => by rw [e]; exact h) (t w')
theorem vx_n {args : Array Value} {s : State} : ∀ w ∈ ([] : List Cond), w.before args s = true := fun _ h => nomatch h
theorem vx_own {args : Array Value} {s : State} {L : List Cond} (h1 : ∀ w ∈ L.filter vx_no, w.before args s = true)
    (hU : (Cond.isRef (.static Bundle.tN "UNASSIGNED_STACK" Bundle.steD)).before args s = true) (hN : (Cond.isRef (.static Bundle.tN "SUPPRESSED_SENTINEL" Bundle.listD)).before args s = true)
    (lU : (Cond.laysStatic Bundle.tN "UNASSIGNED_STACK" Bundle.steD).before args s = true) (lN : (Cond.laysStatic Bundle.tN "SUPPRESSED_SENTINEL" Bundle.listD).before args s = true) : ∀ w ∈ L, w.before args s = true := by
  intro w hw
  by_cases e1 : w = .isRef (.static Bundle.tN "UNASSIGNED_STACK" Bundle.steD)
  · rw [e1]; exact hU
  · by_cases e2 : w = .isRef (.static Bundle.tN "SUPPRESSED_SENTINEL" Bundle.listD)
    · rw [e2]; exact hN
    · by_cases e3 : w = .laysStatic Bundle.tN "UNASSIGNED_STACK" Bundle.steD
      · rw [e3]; exact lU
      · by_cases e4 : w = .laysStatic Bundle.tN "SUPPRESSED_SENTINEL" Bundle.listD
        · rw [e4]; exact lN
        · exact h1 w (List.mem_filter.mpr ⟨hw, by unfold vx_no; rw [decide_eq_true e1, decide_eq_true e2, decide_eq_true e3, decide_eq_true e4]; rfl⟩)
/-- where a static field lies, its class's statics cell in H -/
def vx_L (C n d : String) (A : Nat → Prop) (U : State) (H : Heap) : Prop := ∃ (c : ClassId) (k : Class) (i : Nat) (f : Field) (a : Nat) (cell : Cell), U.vm.findClass C = some c ∧ U.fieldFound? C n d = some (c, k, i, f) ∧ f.isStatic = true ∧ k.statics = some a ∧ H[a]? = some cell ∧ cell.vm.isStatics = true ∧ cell.cls = c ∧ f.slot < cell.slots.size ∧ k.staticTypes[f.slot]? = some f.type ∧ ¬ A a
theorem vx_L.moved {C n d : String} {A : Nat → Prop} {u U : State} {H : Heap} (hvm : u.vm.Alike U.vm) (h : vx_L C n d A u H) : vx_L C n d A U H := by
  obtain ⟨c, k, i, f, a, cell, h1, h2, h3, h4, h5, h6, h7, h8, h9, h10⟩ := h
  obtain ⟨k', hi', he⟩ := State.fieldFound?_setVm hvm h2
  exact ⟨c, k', i, f, a, cell, by rw [hvm.findClass]; exact h1, hi', h3, by rw [he]; exact h4, h5, h6, h7, h8, by rw [he]; exact h9, h10⟩
theorem vx_L.kept {C n d : String} {A : Nat → Prop} {U : State} {H H1 : Heap} (h : vx_L C n d A U H) (hq : ∀ a : Nat, a < H.size → ¬ A a → H1[a]? = H[a]?) : vx_L C n d A U H1 := by
  obtain ⟨c, k, i, f, a, cell, h1, h2, h3, h4, h5, h6, h7, h8, h9, h10⟩ := h
  exact ⟨c, k, i, f, a, cell, h1, h2, h3, h4, by rw [hq a (Array.getElem?_eq_some_iff.mp h5).1 h10]; exact h5, h6, h7, h8, h9, h10⟩
theorem vx_L.narrow {C n d : String} {A B : Nat → Prop} {U : State} {H : Heap} (h : vx_L C n d A U H) (hAB : ∀ q, B q → A q) : vx_L C n d B U H := by
  obtain ⟨c, k, i, f, a, cell, h1, h2, h3, h4, h5, h6, h7, h8, h9, h10⟩ := h
  exact ⟨c, k, i, f, a, cell, h1, h2, h3, h4, h5, h6, h7, h8, h9, fun z => h10 (hAB _ z)⟩
theorem vx_L.word {C n d : String} {A : Nat → Prop} {s : State} {args : Array Value} (h : vx_L C n d A s s.heap) : (Cond.laysStatic C n d).before args s = true := by
  obtain ⟨c, k, i, f, a, cell, h1, h2, h3, h4, h5, h6, h7, h8, h9, -⟩ := h
  show (Cond.laysStatic C n d).holds args s none s [] = true
  exact Cond.laysStatic_of h1 h2 h3 h4 h5 h6 h7 h8 h9
/-- .. and what it holds: null or some reference -/
def vx_Zq (C n d : String) (A : Nat → Prop) (U : State) (H : Heap) : Prop := va_Zq C n d A U H ∧ vx_L C n d A U H
theorem vx_Zq.moved {C n d : String} {A : Nat → Prop} {u U : State} {H : Heap} (hvm : u.vm.Alike U.vm) (h : vx_Zq C n d A u H) : vx_Zq C n d A U H := ⟨va_Zq.moved hvm h.1, vx_L.moved hvm h.2⟩
theorem vx_Zq.kept {C n d : String} {A : Nat → Prop} {U : State} {H H1 : Heap} (h : vx_Zq C n d A U H) (hq : ∀ a : Nat, a < H.size → ¬ A a → H1[a]? = H[a]?) : vx_Zq C n d A U H1 := ⟨va_Zq.kept h.1 hq, vx_L.kept h.2 hq⟩
theorem vx_Zq.narrow {C n d : String} {A B : Nat → Prop} {U : State} {H : Heap} (h : vx_Zq C n d A U H) (hAB : ∀ q, B q → A q) : vx_Zq C n d B U H := ⟨va_Zq.narrow h.1 hAB, vx_L.narrow h.2 hAB⟩
theorem vx_Zqof {args : Array Value} {s : State} {C n d : String} {A : Nat → Prop} (hl : (Cond.laysStatic C n d).before args s = true) (hini : (Cond.initialized C).before args s = true) (h : (Cond.isRef (.static C n d)).before args s = true) (hA : ∀ a : Nat, a < s.heap.size → ¬ A a) : vx_Zq C n d A s s.heap := by
  refine ⟨va_Zqof hl hini h hA, ?_⟩
  obtain ⟨c, k, i, f, a, cell, h1, h2, h3, h4, h5, h6, h7, h8, h9⟩ := Cond.laysStatic_spec hl
  exact ⟨c, k, i, f, a, cell, h1, h2, h3, h4, h5, h6, h7, h8, h9, hA a (Array.getElem?_eq_some_iff.mp h5).1⟩
theorem vx_isRef {C n d : String} {v : Value} {A : Nat → Prop} {s : State} {args : Array Value} (h : va_Z C n d v A s s.heap) (hv : v.isRef = true) : (Cond.isRef (.static C n d)).before args s = true := by
  obtain ⟨cf, kf, fi, f, a, cell, h1, h2, h3, h4, h5, h6, h7, -⟩ := h
  have he : (Term.static C n d).eval args s none [] s = some v := by
    simp [Term.eval, State.fieldNamed?, h1, h2, h4, h5, h6, h7]
  simp only [Cond.before, Cond.holds, Cond.value, he]
  cases v <;> simp_all [Value.isRef]
theorem vx_isRefq {C n d : String} {A : Nat → Prop} {s : State} {args : Array Value} (h : va_Zq C n d A s s.heap) : (Cond.isRef (.static C n d)).before args s = true := by
  rcases h with h | ⟨t, h⟩
  · exact vx_isRef h rfl
  · exact vx_isRef h rfl
/-- the same frame, seen from here: as if the method were called anew in this heap -/
theorem vx_rebase {T : State} (X : Stand p l e R s m args below meth c T locs cells slots) {R' : Room} (hf : R'.frames ≤ R.frames) (hl : R'.locals ≤ R.locals) (hc : cells + R'.cells ≤ R.cells) (hs : slots + R'.slots ≤ R.slots) :
    Stand p l e R' ((T.setVm s.vm).setFrames (.invoking m args :: below)) m args below meth c T [] 0 0 := by
  have htop : (T.setVm s.vm).topJava?.isSome := X.here.top
  have hF : ((T.setVm s.vm).setFrames (.invoking m args :: below)).frames = .invoking m args :: below := State.frames_setFrames _ (State.cur_lt_of_top htop)
  obtain ⟨g₀, hg0⟩ := Option.isSome_iff_exists.mp htop
  obtain ⟨r, hr⟩ := State.topJava?_eq_some.mp hg0
  have hl9 : e.platform.stackLimits (T.setVm s.vm).me = e.platform.stackLimits s.me := X.limits
  have hb9 : (T.setVm s.vm).me.stackBytes = s.me.stackBytes := X.bytes
  refine ⟨X.admits, X.cas, X.clock, hF, ?_, X.hears, X.method, X.code, X.here, X.tail, X.warmed, ?_, ?_, ?_⟩
  · have h := X.room
    have hU : ((T.setVm s.vm).setFrames (.invoking m args :: below)).localsInUse = s.localsInUse := by
      rw [State.localsInUse_invoking hF (meth := meth) (c := c) X.method X.code, State.localsInUse_invoking X.frames X.method X.code]
    simp only [State.hasRoom, Bool.and_eq_true, decide_eq_true_eq] at h ⊢
    obtain ⟨⟨⟨⟨h1, h2, h3, h4, h5, h6⟩, h7⟩, h8⟩, h9⟩ := h
    rw [X.frames, List.length_cons] at h2 h3
    have q1 := X.heapSize
    have q2 := X.used
    simp only [hF, hU, List.length_cons, State.stackLimits_setFrames, State.stackBytes_setFrames, hl9, hb9]
    refine ⟨⟨⟨⟨by omega, by omega, by omega, by omega, by omega, h6⟩, ?_⟩, ?_⟩, X.book⟩
    · show T.heap.size + R'.cells ≤ e.platform.maxCells
      omega
    · show T.slotsUsed + R'.slots ≤ e.platform.maxSlots
      omega
  · rw [State.stackLimits_setFrames]; rfl
  · rw [State.stackBytes_setFrames]; rfl
  · refine ⟨?_, Nat.le_refl _, Nat.le_refl _, ?_, ?_, fun a c9 h9 => ⟨c9, h9, rfl, rfl, fun _ _ => rfl⟩⟩
    · obtain ⟨t, ht, -⟩ := State.frames_cons hr
      show T.setVm s.vm = { ((T.setVm s.vm).setFrames (.invoking m args :: below)).setFrames (T.setVm s.vm).frames with heap := T.heap, slotsUsed := T.slotsUsed }
      rw [State.setFrames_setFrames, State.setFrames_self ht]
      rfl
    · show T.slotsUsed = T.slotsUsed + ((T.heap.toList.drop T.heap.size).map (·.slots.size)).sum
      rw [List.drop_eq_nil_of_le (Nat.le_of_eq Array.length_toList)]
      rfl
    · show ((T.heap.toList.drop T.heap.size).map (·.slots.size)).sum ≤ 0
      rw [List.drop_eq_nil_of_le (Nat.le_of_eq Array.length_toList)]
      exact Nat.le_refl _
/-- 'throw new E()': new; dup; invokespecial; athrow -/
theorem vx_throw0 {cc : ByteArray} {pc : Nat} (hexec : p.tables.exec = Jvm.exec) (hb : c.code = cc) (hl : l.stackTraces = false) {own cls : String} {names : List String} {ik ic mc ms : Nat} {A : Nat → Prop}
    (hown : s.vm.findClass own = some m.cls) (hcls : Bundle.fit cls = true) (hnames : ∀ n ∈ names, Bundle.fit n = true)
    (hk : (Cond.classLink own ik cls).before args s = true) (hini : (Cond.initialized cls).before args s = true) (hat : ∀ w ∈ vx_at0 own ic cls names, w.before args s = true)
    (hgood : ∀ w ∈ Cond.classLink own ik cls :: Cond.initialized cls :: vx_at0 own ic cls names, vx_ot w = true)
    (hU : vx_Zq Bundle.tN "UNASSIGNED_STACK" Bundle.steD A s s.heap) (hN : vx_Zq Bundle.tN "SUPPRESSED_SENTINEL" Bundle.listD A s s.heap) (hS : va_S A s.heap H locs) (hsize : ls.size = c.maxLocals)
    (d0 : decode cc pc = .ok (.new ik, 3)) (d3 : decode cc (pc + 3) = .ok (.dup, 1)) (d4 : decode cc (pc + 4) = .ok (.invokespecial ic, 3)) (d7 : decode cc (pc + 7) = .ok (.athrow, 1))
    (hout : ∀ x ∈ c.exceptionTable.toList, covers x (pc + 7) = false)
    (hRframes : names.length + 3 < R.frames) (hRlocals : (rest.map fun v => v.category).sum + (13 * (names.length + 1) + 42) ≤ R.locals) (hRcells : cells + 1 ≤ R.cells) (hRslots : slots + 6 ≤ R.slots) (hlocks : meth.locks = false)
    (hx : ∀ t : State, s.vm.Alike t.vm → H.size ≤ t.heap.size → (∀ q : Nat, q < H.size → t.heap[q]? = H[q]?) → XC cls s t)
    (hf : ∀ z ∈ locs, free z.base) (hc : cells + 1 ≤ mc) (hs : slots + 6 ≤ ms) :
    W p l e R s m args below meth c H locs cells slots (vx_MQ below Qc XC args s mc ms free) (F0 m pc ls rest) := by
  intro T hT X
  have htr : e.platform.stackTraces = false := (show e.platform.stackTraces = l.stackTraces by rw [X.admits.platform]).trans hl
  have Y := vx_rebase X (R' := { frames := R.frames, locals := R.locals, cells := 1, slots := 6 }) (Nat.le_refl _) (Nat.le_refl _) hRcells hRslots
  obtain ⟨s', hA⟩ : ∃ z, z = (T.setVm s.vm).setFrames (.invoking m args :: below) := ⟨_, rfl⟩
  rw [← hA] at Y
  have hvm : s'.vm = s.vm := by rw [hA]; rfl
  have hhp : s'.heap = H := by rw [hA]; exact hT
  have hW0 : s.WarmedH s'.vm := by rw [hvm]; exact State.WarmedH.refl s
  have hat' : ∀ w ∈ vx_at0 own ic cls names, w.before args s' = true := fun w hw => vx_ot_at hW0 hvm.symm (hgood w (List.mem_cons_of_mem _ (List.mem_cons_of_mem _ hw))) (hat w hw)
  have hk' : (Cond.classLink own ik cls).before args s' = true := vx_ot_at hW0 hvm.symm (hgood _ List.mem_cons_self) hk
  have hini' : (Cond.initialized cls).before args s' = true := vx_ot_at hW0 hvm.symm (hgood _ (List.mem_cons_of_mem _ List.mem_cons_self)) hini
  have hU' : vx_Zq Bundle.tN "UNASSIGNED_STACK" Bundle.steD A s' s'.heap := by rw [hhp]; exact vx_Zq.moved hW0.alike (hU.kept hS.2.1)
  have hN' : vx_Zq Bundle.tN "SUPPRESSED_SENTINEL" Bundle.listD A s' s'.heap := by rw [hhp]; exact vx_Zq.moved hW0.alike (hN.kept hS.2.1)
  have h : ∀ w ∈ Bundle.ownAtoms0 own ic cls names, w.before args s' = true := vx_own hat' (vx_isRefq hU'.1) (vx_isRefq hN'.1) hU'.2.word hN'.2.word
  have hown' : s'.vm.findClass own = some m.cls := by rw [hvm]; exact hown
  have hins : (Cond.instantiable cls 6).before args s' = true := h _ (by simp [Bundle.ownAtoms0])
  obtain ⟨vm₁, cX, kX, hfX, hkX, -, -, X₁, st1⟩ := Y.newCold hexec (own := own) (C := cls) (index := ik) (n := 6) hown' hk' hins hini'
    (g := F0 m pc ls rest) rfl (by rw [hb]; exact d0) (Nat.le_refl _) (Nat.le_refl _)
  generalize hT1 : (T.setVm vm₁).pushCell { cls := cX, slots := kX.instanceTypes.map defaultValue, vm := .none } = T1 at X₁ st1
  have hcat : (Value.ref T.heap.size).category = 1 := rfl
  have hcellA : T1.heap[T.heap.size]? = some (freshCell cX kX) := by rw [← hT1]; exact State.heap_pushCell_size _ _
  have d3' : decode c.code (pc + 3) = .ok (.dup, 1) := by rw [hb]; exact d3
  obtain ⟨U, hsteps, hrun, hend, hW, hsame, ce, hce, hO⟩ := X₁.ctorThrow0 hexec htr (own := own) (cls := cls) (names := names) (ic := ic) hown' hcls hnames h (fun x hx => nomatch hx) hfX hkX hcellA (by rw [hhp, hT]; exact Nat.le_refl _)
    (g := { method := m, pc := pc + 4, locals := ls, stack := .ref T.heap.size :: .ref T.heap.size :: rest, locked := none }) rfl hsize rfl rfl (rest := rest) rfl
    (by rw [hb]; exact d4) (by rw [hb]; exact d7) hout hRframes (by simp only [List.map_cons, List.sum_cons, hcat]; omega) hlocks
  obtain ⟨f1, f2⟩ := vx_frame hsame
  rw [hhp] at f1 f2
  have hWs : s.WarmedH U.vm := State.WarmedH.trans hW0 hW
  have hcl : s.vm.findClass cls = some ce.cls := by
    have h9 := hO.cls
    rw [hvm] at h9
    exact h9
  have hall : s.sameButNew ({ U with vm := s.vm } : State) locs mc ms := by
    subst hA
    obtain ⟨e1, e2⟩ := hsame
    rw [State.setFrames_setFrames] at e1
    have h2 : (T.setVm s.vm).sameButNew ({ U with vm := s.vm } : State) [] (0 + 1) (0 + 6) := ⟨e1, e2⟩
    have h3 := X.same.trans h2
    rw [List.append_nil] at h3
    exact h3.mono hc hs
  refine ⟨U, ?_, .threw T.heap.size, hrun, hend, Or.inr ⟨T.heap.size, rfl, cls, ce, locs, hx U hWs.alike f1 (fun q hq => f2 q hq (fun z hz => nomatch hz)), hce, hO.vm, hcl, hWs, hall, hf⟩⟩
  refine st1 _ ?_
  show Steps p.tables e below (T1.setTop { method := m, pc := pc + 3, locals := ls, stack := .ref T.heap.size :: rest, locked := none }) _
  jvm_step X₁.here [X₁.here.top, hexec, d3', Value.category]
  exact hsteps
/-- 'throw new E("text")': new; dup; ldc; invokespecial; athrow -/
theorem vx_throwS {cc : ByteArray} {pc : Nat} (hexec : p.tables.exec = Jvm.exec) (hb : c.code = cc) (hl : l.stackTraces = false) {own cls text : String} {names : List String} {ik is ic mc ms sa : Nat} {A : Nat → Prop}
    (hown : s.vm.findClass own = some m.cls) (hcls : Bundle.fit cls = true) (hnames : ∀ n ∈ names, Bundle.fit n = true)
    (hk : (Cond.classLink own ik cls).before args s = true) (hini : (Cond.initialized cls).before args s = true) (hstr : vk_R own is text sa s) (hat : ∀ w ∈ vx_atS own ic cls names, w.before args s = true)
    (hgood : ∀ w ∈ Cond.classLink own ik cls :: Cond.initialized cls :: vx_atS own ic cls names, vx_ot w = true)
    (hU : vx_Zq Bundle.tN "UNASSIGNED_STACK" Bundle.steD A s s.heap) (hN : vx_Zq Bundle.tN "SUPPRESSED_SENTINEL" Bundle.listD A s s.heap) (hS : va_S A s.heap H locs) (hsize : ls.size = c.maxLocals)
    (d0 : decode cc pc = .ok (.new ik, 3)) (d3 : decode cc (pc + 3) = .ok (.dup, 1)) (d4 : decode cc (pc + 4) = .ok (.ldc is, 2)) (d6 : decode cc (pc + 6) = .ok (.invokespecial ic, 3)) (d9 : decode cc (pc + 9) = .ok (.athrow, 1))
    (hout : ∀ x ∈ c.exceptionTable.toList, covers x (pc + 9) = false)
    (hRframes : names.length + 3 < R.frames) (hRlocals : (rest.map fun v => v.category).sum + (13 * (names.length + 1) + 43) ≤ R.locals) (hRcells : cells + 1 ≤ R.cells) (hRslots : slots + 6 ≤ R.slots) (hlocks : meth.locks = false)
    (hx : ∀ t : State, s.vm.Alike t.vm → H.size ≤ t.heap.size → (∀ q : Nat, q < H.size → t.heap[q]? = H[q]?) → XC cls s t)
    (hf : ∀ z ∈ locs, free z.base) (hc : cells + 1 ≤ mc) (hs : slots + 6 ≤ ms) :
    W p l e R s m args below meth c H locs cells slots (vx_MQ below Qc XC args s mc ms free) (F0 m pc ls rest) := by
  intro T hT X
  have htr : e.platform.stackTraces = false := (show e.platform.stackTraces = l.stackTraces by rw [X.admits.platform]).trans hl
  have Y := vx_rebase X (R' := { frames := R.frames, locals := R.locals, cells := 1, slots := 6 }) (Nat.le_refl _) (Nat.le_refl _) hRcells hRslots
  obtain ⟨s', hA⟩ : ∃ z, z = (T.setVm s.vm).setFrames (.invoking m args :: below) := ⟨_, rfl⟩
  rw [← hA] at Y
  have hvm : s'.vm = s.vm := by rw [hA]; rfl
  have hhp : s'.heap = H := by rw [hA]; exact hT
  have hW0 : s.WarmedH s'.vm := by rw [hvm]; exact State.WarmedH.refl s
  have hat' : ∀ w ∈ vx_atS own ic cls names, w.before args s' = true := fun w hw => vx_ot_at hW0 hvm.symm (hgood w (List.mem_cons_of_mem _ (List.mem_cons_of_mem _ hw))) (hat w hw)
  have hk' : (Cond.classLink own ik cls).before args s' = true := vx_ot_at hW0 hvm.symm (hgood _ List.mem_cons_self) hk
  have hini' : (Cond.initialized cls).before args s' = true := vx_ot_at hW0 hvm.symm (hgood _ (List.mem_cons_of_mem _ List.mem_cons_self)) hini
  have hU' : vx_Zq Bundle.tN "UNASSIGNED_STACK" Bundle.steD A s' s'.heap := by rw [hhp]; exact vx_Zq.moved hW0.alike (hU.kept hS.2.1)
  have hN' : vx_Zq Bundle.tN "SUPPRESSED_SENTINEL" Bundle.listD A s' s'.heap := by rw [hhp]; exact vx_Zq.moved hW0.alike (hN.kept hS.2.1)
  have h : ∀ w ∈ Bundle.ownAtoms own ic cls names, w.before args s' = true := vx_own hat' (vx_isRefq hU'.1) (vx_isRefq hN'.1) hU'.2.word hN'.2.word
  have hown' : s'.vm.findClass own = some m.cls := by rw [hvm]; exact hown
  have hins : (Cond.instantiable cls 6).before args s' = true := h _ (by simp [Bundle.ownAtoms])
  obtain ⟨vm₁, cX, kX, hfX, hkX, -, -, X₁, st1⟩ := Y.newCold hexec (own := own) (C := cls) (index := ik) (n := 6) hown' hk' hins hini'
    (g := F0 m pc ls rest) rfl (by rw [hb]; exact d0) (Nat.le_refl _) (Nat.le_refl _)
  generalize hT1 : (T.setVm vm₁).pushCell { cls := cX, slots := kX.instanceTypes.map defaultValue, vm := .none } = T1 at X₁ st1
  have hcat : (Value.ref T.heap.size).category = 1 := rfl
  have hcellA : T1.heap[T.heap.size]? = some (freshCell cX kX) := by rw [← hT1]; exact State.heap_pushCell_size _ _
  have d3' : decode c.code (pc + 3) = .ok (.dup, 1) := by rw [hb]; exact d3
  have d4' : decode c.code (pc + 4) = .ok (.ldc is, 2) := by rw [hb]; exact d4
  have hstr' : vk_R own is text sa s' := vk_R.warm hW0 hstr
  obtain ⟨U, hsteps, hrun, hend, hW, hsame, ce, hce, hO⟩ := X₁.ctorThrowS hexec htr (own := own) (cls := cls) (names := names) (ic := ic) hown' hcls hnames h (fun x hx => nomatch hx) hfX hkX hcellA (by rw [hhp, hT]; exact Nat.le_refl _) (msg := .ref sa) rfl
    (g := { method := m, pc := pc + 6, locals := ls, stack := .ref sa :: .ref T.heap.size :: .ref T.heap.size :: rest, locked := none }) rfl hsize rfl rfl (rest := rest) rfl
    (by rw [hb]; exact d6) (by rw [hb]; exact d9) hout hRframes (by simp only [List.map_cons, List.sum_cons, hcat]; omega) hlocks
  obtain ⟨f1, f2⟩ := vx_frame hsame
  rw [hhp] at f1 f2
  have hWs : s.WarmedH U.vm := State.WarmedH.trans hW0 hW
  have hcl : s.vm.findClass cls = some ce.cls := by
    have h9 := hO.cls
    rw [hvm] at h9
    exact h9
  have hall : s.sameButNew ({ U with vm := s.vm } : State) locs mc ms := by
    subst hA
    obtain ⟨e1, e2⟩ := hsame
    rw [State.setFrames_setFrames] at e1
    have h2 : (T.setVm s.vm).sameButNew ({ U with vm := s.vm } : State) [] (0 + 1) (0 + 6) := ⟨e1, e2⟩
    have h3 := X.same.trans h2
    rw [List.append_nil] at h3
    exact h3.mono hc hs
  refine ⟨U, ?_, .threw T.heap.size, hrun, hend, Or.inr ⟨T.heap.size, rfl, cls, ce, locs, hx U hWs.alike f1 (fun q hq => f2 q hq (fun z hz => nomatch hz)), hce, hO.vm, hcl, hWs, hall, hf⟩⟩
  refine st1 _ ?_
  show Steps p.tables e below (T1.setTop { method := m, pc := pc + 3, locals := ls, stack := .ref T.heap.size :: rest, locked := none }) _
  jvm_step X₁.here [X₁.here.top, hexec, d3', Value.category]
  exact X₁.ldcString hexec (own := own) (text := text) (index := is) (a := sa) hown' hstr'.1 hstr'.2
    (g := { method := m, pc := pc + 4, locals := ls, stack := .ref T.heap.size :: .ref T.heap.size :: rest, locked := none }) rfl d4' _ hsteps
/-- 'throw new E("text")', the text by a wide index -/
theorem vx_throwSW {cc : ByteArray} {pc : Nat} (hexec : p.tables.exec = Jvm.exec) (hb : c.code = cc) (hl : l.stackTraces = false) {own cls text : String} {names : List String} {ik is ic mc ms sa : Nat} {A : Nat → Prop}
    (hown : s.vm.findClass own = some m.cls) (hcls : Bundle.fit cls = true) (hnames : ∀ n ∈ names, Bundle.fit n = true)
    (hk : (Cond.classLink own ik cls).before args s = true) (hini : (Cond.initialized cls).before args s = true) (hstr : vk_R own is text sa s) (hat : ∀ w ∈ vx_atS own ic cls names, w.before args s = true)
    (hgood : ∀ w ∈ Cond.classLink own ik cls :: Cond.initialized cls :: vx_atS own ic cls names, vx_ot w = true)
    (hU : vx_Zq Bundle.tN "UNASSIGNED_STACK" Bundle.steD A s s.heap) (hN : vx_Zq Bundle.tN "SUPPRESSED_SENTINEL" Bundle.listD A s s.heap) (hS : va_S A s.heap H locs) (hsize : ls.size = c.maxLocals)
    (d0 : decode cc pc = .ok (.new ik, 3)) (d3 : decode cc (pc + 3) = .ok (.dup, 1)) (d4 : decode cc (pc + 4) = .ok (.ldc_w is, 3)) (d7 : decode cc (pc + 7) = .ok (.invokespecial ic, 3)) (d10 : decode cc (pc + 10) = .ok (.athrow, 1))
    (hout : ∀ x ∈ c.exceptionTable.toList, covers x (pc + 10) = false)
    (hRframes : names.length + 3 < R.frames) (hRlocals : (rest.map fun v => v.category).sum + (13 * (names.length + 1) + 43) ≤ R.locals) (hRcells : cells + 1 ≤ R.cells) (hRslots : slots + 6 ≤ R.slots) (hlocks : meth.locks = false)
    (hx : ∀ t : State, s.vm.Alike t.vm → H.size ≤ t.heap.size → (∀ q : Nat, q < H.size → t.heap[q]? = H[q]?) → XC cls s t)
    (hf : ∀ z ∈ locs, free z.base) (hc : cells + 1 ≤ mc) (hs : slots + 6 ≤ ms) :
    W p l e R s m args below meth c H locs cells slots (vx_MQ below Qc XC args s mc ms free) (F0 m pc ls rest) := by
  intro T hT X
  have htr : e.platform.stackTraces = false := (show e.platform.stackTraces = l.stackTraces by rw [X.admits.platform]).trans hl
  have Y := vx_rebase X (R' := { frames := R.frames, locals := R.locals, cells := 1, slots := 6 }) (Nat.le_refl _) (Nat.le_refl _) hRcells hRslots
  obtain ⟨s', hA⟩ : ∃ z, z = (T.setVm s.vm).setFrames (.invoking m args :: below) := ⟨_, rfl⟩
  rw [← hA] at Y
  have hvm : s'.vm = s.vm := by rw [hA]; rfl
  have hhp : s'.heap = H := by rw [hA]; exact hT
  have hW0 : s.WarmedH s'.vm := by rw [hvm]; exact State.WarmedH.refl s
  have hat' : ∀ w ∈ vx_atS own ic cls names, w.before args s' = true := fun w hw => vx_ot_at hW0 hvm.symm (hgood w (List.mem_cons_of_mem _ (List.mem_cons_of_mem _ hw))) (hat w hw)
  have hk' : (Cond.classLink own ik cls).before args s' = true := vx_ot_at hW0 hvm.symm (hgood _ List.mem_cons_self) hk
  have hini' : (Cond.initialized cls).before args s' = true := vx_ot_at hW0 hvm.symm (hgood _ (List.mem_cons_of_mem _ List.mem_cons_self)) hini
  have hU' : vx_Zq Bundle.tN "UNASSIGNED_STACK" Bundle.steD A s' s'.heap := by rw [hhp]; exact vx_Zq.moved hW0.alike (hU.kept hS.2.1)
  have hN' : vx_Zq Bundle.tN "SUPPRESSED_SENTINEL" Bundle.listD A s' s'.heap := by rw [hhp]; exact vx_Zq.moved hW0.alike (hN.kept hS.2.1)
  have h : ∀ w ∈ Bundle.ownAtoms own ic cls names, w.before args s' = true := vx_own hat' (vx_isRefq hU'.1) (vx_isRefq hN'.1) hU'.2.word hN'.2.word
  have hown' : s'.vm.findClass own = some m.cls := by rw [hvm]; exact hown
  have hins : (Cond.instantiable cls 6).before args s' = true := h _ (by simp [Bundle.ownAtoms])
  obtain ⟨vm₁, cX, kX, hfX, hkX, -, -, X₁, st1⟩ := Y.newCold hexec (own := own) (C := cls) (index := ik) (n := 6) hown' hk' hins hini'
    (g := F0 m pc ls rest) rfl (by rw [hb]; exact d0) (Nat.le_refl _) (Nat.le_refl _)
  generalize hT1 : (T.setVm vm₁).pushCell { cls := cX, slots := kX.instanceTypes.map defaultValue, vm := .none } = T1 at X₁ st1
  have hcat : (Value.ref T.heap.size).category = 1 := rfl
  have hcellA : T1.heap[T.heap.size]? = some (freshCell cX kX) := by rw [← hT1]; exact State.heap_pushCell_size _ _
  have d3' : decode c.code (pc + 3) = .ok (.dup, 1) := by rw [hb]; exact d3
  have d4' : decode c.code (pc + 4) = .ok (.ldc_w is, 3) := by rw [hb]; exact d4
  have hstr' : vk_R own is text sa s' := vk_R.warm hW0 hstr
  obtain ⟨U, hsteps, hrun, hend, hW, hsame, ce, hce, hO⟩ := X₁.ctorThrowS hexec htr (own := own) (cls := cls) (names := names) (ic := ic) hown' hcls hnames h (fun x hx => nomatch hx) hfX hkX hcellA (by rw [hhp, hT]; exact Nat.le_refl _) (msg := .ref sa) rfl
    (g := { method := m, pc := pc + 7, locals := ls, stack := .ref sa :: .ref T.heap.size :: .ref T.heap.size :: rest, locked := none }) rfl hsize rfl rfl (rest := rest) rfl
    (by rw [hb]; exact d7) (by rw [hb]; exact d10) hout hRframes (by simp only [List.map_cons, List.sum_cons, hcat]; omega) hlocks
  obtain ⟨f1, f2⟩ := vx_frame hsame
  rw [hhp] at f1 f2
  have hWs : s.WarmedH U.vm := State.WarmedH.trans hW0 hW
  have hcl : s.vm.findClass cls = some ce.cls := by
    have h9 := hO.cls
    rw [hvm] at h9
    exact h9
  have hall : s.sameButNew ({ U with vm := s.vm } : State) locs mc ms := by
    subst hA
    obtain ⟨e1, e2⟩ := hsame
    rw [State.setFrames_setFrames] at e1
    have h2 : (T.setVm s.vm).sameButNew ({ U with vm := s.vm } : State) [] (0 + 1) (0 + 6) := ⟨e1, e2⟩
    have h3 := X.same.trans h2
    rw [List.append_nil] at h3
    exact h3.mono hc hs
  refine ⟨U, ?_, .threw T.heap.size, hrun, hend, Or.inr ⟨T.heap.size, rfl, cls, ce, locs, hx U hWs.alike f1 (fun q hq => f2 q hq (fun z hz => nomatch hz)), hce, hO.vm, hcl, hWs, hall, hf⟩⟩
  refine st1 _ ?_
  show Steps p.tables e below (T1.setTop { method := m, pc := pc + 3, locals := ls, stack := .ref T.heap.size :: rest, locked := none }) _
  jvm_step X₁.here [X₁.here.top, hexec, d3', Value.category]
  exact X₁.ldcStringW hexec (own := own) (text := text) (index := is) (a := sa) hown' hstr'.1 hstr'.2
    (g := { method := m, pc := pc + 4, locals := ls, stack := .ref T.heap.size :: .ref T.heap.size :: rest, locked := none }) rfl d4' _ hsteps
end Ends
section Bodies
variable {l : Launch}
theorem vx_ofW {y : MethodName} {ws ws' : List Cond} {rm : Room} {Pc : Array Value → State → Prop} {Qc : Array Value → State → Outcome → State → Prop} {XC : String → State → State → Prop} {mc ms : Nat} {free : Addr → Prop} {cc : ByteArray} {maxL : Nat} {ret : Option FieldType}
    (hy : plainName y.cls = true) (hw : ws = Cond.code y cc maxL ret :: ws')
    (body : ∀ p e s m args below meth c s₁, BodyLoose p l y (headSpec ws rm) cc maxL ret e s m args below meth c s₁ → c.maxLocals = maxL → (∀ x ∈ c.exceptionTable.toList, False) → Pc args s →
      W p l e (headSpec ws rm).room s m args below meth c s.heap [] 0 0 (vx_MQ below Qc XC args s mc ms free) (entryFrame m args maxL)) : vx_Met l y ws rm Pc Qc XC mc ms free := by
  refine MetFree.of_bodyS (code := cc) (maxLocals := maxL) (ret := ret) hy ?_ ?_
  · intro args s m h hn
    obtain ⟨meth, c, h1, h2, h3, h4, h5, h6, -, -⟩ := Cond.code_spec hn (atoms_spec (ws := ws) h _ (by rw [hw]; exact List.mem_cons_self))
    exact ⟨meth, c, h1, h2, h3, h4, h5, h6⟩
  · intro p e s m args below meth c s₁ B hml hP _
    have hh0 : s₁.heap = s.heap := by rw [B.state]; rfl
    have ht : ∀ x ∈ c.exceptionTable.toList, False := by
      obtain ⟨meth9, c9, h1, h2, -, -, -, -, h7, -⟩ := Cond.code_spec B.named (atoms_spec (ws := ws) B.pre _ (by rw [hw]; exact List.mem_cons_self))
      cases Option.some.inj (h1.symm.trans B.method)
      cases Option.some.inj (h2.symm.trans (Stand.of_body B).code)
      intro x hx
      rw [Array.isEmpty_iff.mp h7] at hx
      cases hx
    obtain ⟨t, a1, o, b1, b2, b3⟩ := body p e s m args below meth c s₁ B hml ht hP s₁ hh0 (Stand.of_body B)
    exact ⟨t, o, a1, b1, b2, b3⟩
/-- the table of a body with handlers -/
theorem vx_table {p : Program} {x y : MethodName} {S : Spec} {cc bytes : ByteArray} {maxL maxL' : Nat} {ret ret' : Option FieldType} {e : Env} {s s₁ : State} {m : MethodId} {args : Array Value} {below : List Frame} {meth : Method} {c : Code} {hh : List (Nat × Nat × Nat × Nat)}
    (B : BodyLoose p l y S cc maxL ret e s m args below meth c s₁) (h : (Cond.codeWith y bytes maxL' ret' hh).before args s = true) : c.exceptionTable.toList = tableOf hh := by
  obtain ⟨m9, meth9, c9, hn9, h1, h2, -, -, h6, -⟩ := Cond.codeWith_spec h
  cases Option.some.inj (hn9.symm.trans B.named)
  cases Option.some.inj (h1.symm.trans B.method)
  cases Option.some.inj (h2.symm.trans (Stand.of_body B).code)
  rw [← h6, table_eq]
end Bodies
end VXA
/-! ===== END ===== -/
/-! ===== BEGIN a static call of a method with an exception table ===== -/
section VXS
variable {p : Program} {l : Launch} {e : Env} {R : Room} {s : State} {m : MethodId} {args : Array Value} {below : List Frame} {meth : Method} {c : Code} {T : State} {H : Heap} {locs : List Loc} {cells slots : Nat}
abbrev vx_CSW (R : Room) (s : State) (args : Array Value) (own : String) (index : Nat) (y : MethodName) (bytes : ByteArray) (maxL : Nat) (ret : Option FieldType) (hh : List (Nat × Nat × Nat × Nat)) (ws : List Cond) (rm : Room) (mc ms n : Nat) : Prop :=
  (rm.cells = mc ∧ rm.slots = ms ∧ rm.frames + 1 ≤ R.frames ∧ 8 + (maxL + 11) + rm.locals ≤ R.locals ∧ (∀ w ∈ ws, ∀ (a' : Array Value) (U : State), s.WarmedH U.vm → w.before a' U = true) ∧ Cond.codeWith y bytes maxL ret hh ∈ ws) ∧
  (Cond.codeWith y bytes maxL ret hh).before args s = true ∧ (Cond.initialized y.cls).before args s = true ∧ (y.cls ≠ "java/lang/invoke/MethodHandle" ∧ y.cls ≠ "java/lang/invoke/VarHandle") ∧
  (∀ sig, parseMethodDescriptor y.desc = some sig → n = sig.parameters.length) ∧ (Cond.methodLink own index y).before args s = true ∧ (Cond.static y).before args s = true
theorem vx_cwSW {own : String} {index maxL mc ms : Nat} {y : MethodName} {bytes : ByteArray} {ret : Option FieldType} {hh : List (Nat × Nat × Nat × Nat)} {Ts ws ws' : List Cond} {rm : Room} (n : Nat) (ht : ∀ w ∈ Ts, w.before args s = true) (hT : GoodIn Ts (va_wsS own index y ws)) (hw : ws = Cond.codeWith y bytes maxL ret hh :: ws') (hrc : rm.cells = mc) (hrs : rm.slots = ms)
    (hd : y.cls ≠ "java/lang/invoke/MethodHandle" ∧ y.cls ≠ "java/lang/invoke/VarHandle" ∧ (parseMethodDescriptor y.desc).map (fun d => d.parameters.length) = some n) (hR : rm.frames + 1 ≤ R.frames ∧ 8 + (maxL + 11) + rm.locals ≤ R.locals) :
    vx_CSW R s args own index y bytes maxL ret hh ws rm mc ms n := by
  have ok : ∀ w ∈ va_wsS own index y ws, w.before args s = true := fun w h => ht w (hT w h).1
  have hG : GoodIn Ts ws := fun w h => hT w (by unfold va_wsS; exact List.mem_append_right _ h)
  have hc : Cond.codeWith y bytes maxL ret hh ∈ ws := by rw [hw]; exact List.mem_cons_self
  refine ⟨⟨hrc, hrs, hR.1, hR.2, pay_in ht hG, hc⟩, ht _ (hG _ hc).1, ok _ (by simp [va_wsS]), ⟨hd.1, hd.2.1⟩, fun sig h => ?_, ok _ (by simp [va_wsS]), ok _ (by simp [va_wsS])⟩
  have h2 := hd.2.2
  rw [h] at h2
  exact (Option.some.inj h2).symm
theorem vx_callSW (X : Stand p l e R s m args below meth c T locs cells slots) (hexec : p.tables.exec = Jvm.exec) {own : String} {index : Nat} {y : MethodName} {bytes : ByteArray} {maxL : Nat} {ret : Option FieldType} {hh : List (Nat × Nat × Nat × Nat)}
    (hown : s.vm.findClass own = some m.cls) (hlink : (Cond.methodLink own index y).before args s = true) (hstat : (Cond.static y).before args s = true) (hinit : (Cond.initialized y.cls).before args s = true)
    (hcode : (Cond.codeWith y bytes maxL ret hh).before args s = true) (hy : y.cls ≠ "java/lang/invoke/MethodHandle" ∧ y.cls ≠ "java/lang/invoke/VarHandle")
    {W9 : Nat} {Pre : Pt → Array Value → Prop} {Post : Pt → Array Value → Option Value → Pt → Prop} (hK : Back l R p e below s args y 3 W9 Pre Post)
    {g : JFrame} (hg : g.method = m) (hsize : g.locals.size = c.maxLocals) {argsL rest : List Value} (hlen : ∀ sig, parseMethodDescriptor y.desc = some sig → argsL.length = sig.parameters.length)
    (hstack : g.stack = argsL.reverse ++ rest) (hW : 2 * g.monitorRoom + (rest.map fun v => v.category).sum ≤ W9) (hdg : decode c.code g.pc = .ok (.invokestatic index, 3))
    (hpre : ∀ vm₁, s.WarmedH vm₁ → Pre ⟨T.setVm vm₁, locs, cells, slots⟩ argsL.toArray) :
    ∃ (v : Option Value) (vm₁ : Vm) (B : Pt), s.WarmedH vm₁ ∧ Stand p l e R s m args below meth c B.U B.locs B.cells B.slots ∧ Post ⟨T.setVm vm₁, locs, cells, slots⟩ argsL.toArray v B ∧
      ∀ target, Steps p.tables e below (B.U.setTop { g with pc := g.pc + 3, stack := v.toList ++ rest }) target → Steps p.tables e below (T.setTop g) target := by
  obtain ⟨mk, methM, cM, hnamed, hmethM, -, -, -, -, -, -, hsigM⟩ := Cond.codeWith_spec hcode
  have hstatic : methM.isStatic = true := Cond.static_spec hnamed hmethM hstat
  obtain ⟨kP, hkP, -⟩ := className_of_methodNamed hnamed
  have hinitP : kP.init = .initialized := Cond.initialized_spec (findClass_of_methodNamed hnamed) hkP hinit
  obtain ⟨vm₁, X₁, hstep₁⟩ := X.invokestatic hexec hown hlink hnamed hmethM hstatic hkP hinitP hy (g := g) hg (argsL := argsL) (rest := rest) (hlen _ hsigM) hstack hdg
  obtain ⟨v, B, X', hpost, hsteps⟩ := hK m meth c ⟨T.setVm vm₁, locs, cells, slots⟩ { g with stack := rest } (.invokestatic index) mk argsL.toArray X₁ hg hsize hdg hW (X₁.named hnamed) (hpre vm₁ X₁.warmed)
  exact ⟨v, vm₁, B, X₁.warmed, X', hpost, fun target h => hstep₁ _ fun acts => by rw [doInvoke_state]; exact hsteps.trans h⟩
theorem vx_runSW {y : MethodName} {bytes cc : ByteArray} {maxL nL mc ms n index : Nat} {ret : Option FieldType} {hh : List (Nat × Nat × Nat × Nat)} {ws : List Cond} {rm : Room} {Pc : Array Value → State → Prop} {Qc : Array Value → State → Outcome → State → Prop} {free : Addr → Prop} {Ts : List Cond} {own : String} {As rest : List Value} {g : JFrame}
    (S : CallFix p m c cc nL s args Ts own) (hM : Met l y ws rm Pc Qc mc ms free) (cw : vx_CSW R s args own index y bytes maxL ret hh ws rm mc ms n) (hp : PreS s H Pc As)
    (hg : g.method = m) (hn : As.length = n) (hsize : g.locals.size = nL) (hstack : g.stack = As.reverse ++ rest) (hW : 2 * g.monitorRoom + (rest.map fun v => v.category).sum ≤ 8) (hdg : decode cc g.pc = .ok (.invokestatic index, 3)) (hf : cells + mc ≤ R.cells ∧ slots + ms ≤ R.slots) :
    va_Run p l e R s m args below meth c H locs cells slots mc ms g rest (Qc As.toArray) (free) := by
  obtain ⟨⟨hrc, hrs, hfr, hlo, hws, hcw⟩, hcode, hini, hy, hlen, hl, hstt⟩ := cw
  have hK : Back l R p e below s args y 3 8 (PreOf R mc ms Pc) (PostOf Qc mc ms free) := va_backW (hh := hh) (bytes := bytes) (maxL := maxL) (ret := ret) hM hp.1 hrc hrs hfr hlo hws hcw (fun a' U hW => word_at hW (Or.inl (by first | rfl | simp [Cond.onTables, Cond.keeps, Cond.steady])) hini)
  obtain ⟨hx, hb, hml, ho, -⟩ := S
  intro T hT X
  obtain ⟨v, vm₁, ⟨U', l2, c2, s2⟩, hW₁, X', ⟨g', mk, t, L, e1, e2, hq, h1, hL, h2, h3⟩, st⟩ := vx_callSW X hx (hh := hh) (bytes := bytes) (maxL := maxL) (ret := ret) ho hl hstt hini hcode hy hK hg (hsize.trans hml.symm) (argsL := As) (rest := rest) (fun sig h => hn.trans (hlen sig h)) hstack hW (by rw [hb]; exact hdg)
    (fun vm₁ hW₁ => ⟨hf.1, hf.2, hp.2 (T.setVm vm₁) hT hW₁⟩)
  dsimp only [Pt.U, Pt.locs, Pt.cells, Pt.slots] at X' e1 e2 h1 h2 h3 st
  subst h1; subst h2; subst h3
  exact ⟨v, (T.setVm vm₁).calling g' mk As.toArray, t, U', L, hT, X', hL, e1, e2, hq, st⟩
/-- not caught here, past rows that name other classes: it goes on to the caller -/
theorem vx_outP {p : Program} {l : Launch} {e : Env} {R : Room} {s : State} {m : MethodId} {args : Array Value} {below : List Frame} {meth : Method} {c : Code} {H : Heap} {locs : List Loc} {cells slots : Nat} {free : Addr → Prop} {ls : Array Slot} {rest : List Value} {Qc : Array Value → State → Outcome → State → Prop} {XC : String → State → State → Prop}
    {pc : Nat} {own E : String} {ce : Cell} {q : Addr} {mc ms : Nat} (hown : s.vm.findClass own = some m.cls) (hlocks : meth.locks = false)
    (hpass : ∀ z ∈ c.exceptionTable.toList, covers z pc = false ∨ (z.catchType ≠ 0 ∧ ∃ nm : String, (Cond.classLink own z.catchType nm).before args s = true ∧ va_Nc E nm s)) (hcell : H[q]? = some ce) (hv : ce.vm = .none) (hcl : s.vm.findClass E = some ce.cls)
    (hx : ∀ t : State, t.heap = H → s.vm.Alike t.vm → XC E s t) (hf : ∀ z ∈ locs, free z.base) (hc : cells ≤ mc) (hs : slots ≤ ms) :
    vx_W p l e R s m args below meth c H locs cells slots (vx_MQ below Qc XC args s mc ms free) (F0 m pc ls rest) q := by
  intro T hT X
  have hpl : e.platform.magicAccessors = ({} : Platform).magicAccessors := by rw [X.admits.platform]
  obtain ⟨vm', hW', X', st⟩ := X.outThrough hlocks q (g := F0 m pc ls rest) rfl rfl rfl (cell := ce) (by rw [hT]; exact hcell) (by rw [hv]; rfl)
    (by obtain ⟨k9, h9, -⟩ := Vm.findClass_spec hcl; exact ⟨k9, h9⟩) (fun z hz => by
      rcases hpass z hz with h | ⟨hz0, nm, hl1, hn1⟩
      · exact Or.inl h
      · obtain ⟨c6, hc6, hcl6⟩ := Cond.classLink_spec hown hl1 e.platform hpl
        obtain ⟨a8, b8, h1, h2, h3⟩ := hn1
        cases Option.some.inj (h1.symm.trans hcl)
        cases Option.some.inj (h2.symm.trans hc6)
        exact Or.inr ⟨hz0, _, hcl6, h3⟩)
  obtain ⟨g₀, hfr⟩ := X'.frames_eq
  have hcell9 : ((T.setVm vm').setFrames (.throwing q :: below)).heap[q]? = some ce := by
    show T.heap[q]? = some ce
    rw [hT]; exact hcell
  have hend : Ended ((T.setVm vm').setFrames (.throwing q :: below)) below (.threw q) := State.frames_setFrames _ (State.cur_lt_of_frames hfr)
  refine ⟨(T.setVm vm').setFrames (.throwing q :: below), ?_, .threw q, X'.here.running, hend, Or.inr ⟨q, rfl, E, ce, locs, hx _ hT (X'.ends _).1.alike, hcell9, hv, hcl, (X'.ends _).1, (X'.ends _).2.mono hc hs, hf⟩⟩
  rw [X.pushThrowing_eq]
  exact st
/-- a thing of a world lies in the heap -/
theorem vx_lt {D : va_G} {cl : List vw_C} {ws : va_W} {H1 : Heap} (h : va_P D cl ws H1) {k : Nat} {q : Nat × va_E} (hk : ws[k]? = some q) : q.1 < H1.size := (h k q hk).lt
end VXS
/-! ===== END ===== -/
/-! ===== BEGIN methods with a table of their own: called by a name, returning or throwing ===== -/
section VXH
/-! vx_backW, vx_callVX, vx_callSX, vx_callVW, vx_runVW, vx_runVX, vx_runSX, vx_ofWH follow the same proofs as their sisters above (Free/Laws.lean, Shelf42/LK1.lean); vx_outP calls Shelf42/NT130.lean (outThrough). -/
section
variable {l : Launch} {R : Room} {p : Program} {e : Env} {below : List Frame} {s : State} {sargs : Array Value} {y : MethodName} {len W9 : Nat}
theorem vx_backW {ws : List Cond} {rm : Room} {Pc : Array Value → State → Prop} {Qc : Array Value → State → Outcome → State → Prop} {XC : String → State → State → Prop} {mc ms : Nat} {free : Addr → Prop} {bytes : ByteArray} {maxL : Nat} {ret : Option FieldType} {hh : List (Nat × Nat × Nat × Nat)}
    (hM : vx_Met l y ws rm Pc Qc XC mc ms free) (hblind : FrameBlind Pc) (hrc : rm.cells = mc) (hrs : rm.slots = ms)
    (hframes : rm.frames + 1 ≤ R.frames) (hlocals : W9 + (maxL + 11) + rm.locals ≤ R.locals)
    (hws : ∀ w ∈ ws, ∀ a' U, s.WarmedH U.vm → w.before a' U = true) (hcode : Cond.codeWith y bytes maxL ret hh ∈ ws) (hinit : ∀ a' U, s.WarmedH U.vm → (Cond.initialized y.cls).before a' U = true) :
    vx_Back l R p e below s sargs y len W9 (PreOf R mc ms Pc) (PostOf Qc mc ms free) (vx_Post XC mc ms free) := by
  intro m meth c A g ig mk a X hg hsize hdg hW hn hp
  have h1 : (headSpec ws rm).pre.before a A.U = true := atoms_intro fun w hw => hws w hw _ _ X.warmed
  have h2 : (Cond.codeWith y bytes maxL ret hh).before a A.U = true := hws _ hcode _ _ X.warmed
  have h3 : (Cond.initialized y.cls).before a A.U = true := hinit _ _ X.warmed
  have h4 : A.cells + (headSpec ws rm).room.cells ≤ R.cells := by rw [show (headSpec ws rm).room.cells = mc from hrc]; exact hp.1
  have h5 : A.slots + (headSpec ws rm).room.slots ≤ R.slots := by rw [show (headSpec ws rm).room.slots = ms from hrs]; exact hp.2.1
  have hPc : Pc a (A.U.calling g mk a) := hblind _ _ _ _ hp.2.2
  obtain ⟨U, Ls, c0, s0⟩ := A
  dsimp only [Pt.U, Pt.locs, Pt.cells, Pt.slots] at h1 h2 h3 h4 h5 X hn hPc ⊢
  obtain ⟨m9, methY, cY, hn9, hmY, hcY, -, hlY, -⟩ := Cond.codeWith_spec h2
  cases Option.some.inj (hn9.symm.trans hn)
  obtain ⟨kY, hkY, -⟩ := className_of_methodNamed hn
  have hinitY : kY.init = .initialized := Cond.initialized_spec (findClass_of_methodNamed hn) hkY h3
  have h : At U g.method c below := by rw [hg]; exact X.here
  have hlocals9 : W9 + (maxL + 11) + (headSpec ws rm).room.locals ≤ R.locals := hlocals
  have happ : (headSpec ws rm).appliesLoose y e.platform (U.calling g mk a) = true :=
    Spec.appliesLoose_calling (g := g) h hdg hn hkY hinitY
      (X.room_calling (g := g) (R' := (headSpec ws rm).room) hsize hmY hcY hframes (by rw [hlY]; omega) h4 h5) h1
  obtain ⟨mid, hmid⟩ := h.above
  have hfr : (U.setTop g).frames = (.java g :: mid) ++ below := by rw [State.frames_setTop' g h.top, hmid]; rfl
  obtain ⟨o, s₂, hsteps, -, hend, hq⟩ := Steps.callFree hM p X.admits X.cas X.clock (acts := []) hfr happ hPc trivial
  have hq' : vx_Q Qc XC mc ms free a (U.calling g mk a) o s₂ := hq
  rw [State.frames_setTop' g h.top] at hend
  obtain ⟨g₀, hg0⟩ := Option.isSome_iff_exists.mp h.top
  obtain ⟨r, hr⟩ := State.topJava?_eq_some.mp hg0
  have hr' : (({ U with heap := s₂.heap, slotsUsed := s₂.slotsUsed } : State).setVm s₂.vm).frames = .java g₀ :: r := hr
  rcases hq' with ⟨hqc, L, hfe, hL⟩ | ⟨q, rfl, E, ce, L, hx, hce, hcv, hcl, hW₂, hsm, hL⟩
  · obtain ⟨⟨v, rfl⟩, hW₂, e2, q2, q3, q4, q5, q6⟩ := id hfe
    have e3 : s₂ = ({ (U.calling g mk a).setFrames s₂.frames with heap := s₂.heap, slotsUsed := s₂.slotsUsed } : State).setVm s₂.vm := by
      have : s₂ = ({ s₂ with vm := (U.calling g mk a).vm } : State).setVm s₂.vm := rfl
      rw [e2] at this
      exact this
    obtain ⟨c₂, i₂, len₂, hc₂, hd₂, hf₂⟩ := hend
    have hW' : U.WarmedH s₂.vm := hW₂
    have hcc : c₂ = c := by
      have h1 : s₂.code? g.method = U.code? g.method := by
        rw [State.code?_eq, State.code?_eq, hW'.alike.method?]
      exact Option.some.inj (hc₂.symm.trans (h1.trans h.code))
    subst hcc
    have hlen : len₂ = len := by rw [hdg] at hd₂; cases hd₂; rfl
    subst hlen
    have hs₂ : s₂ = (({ U with heap := s₂.heap, slotsUsed := s₂.slotsUsed } : State).setVm s₂.vm).setTop { g with pc := g.pc + len₂, stack := v.toList ++ g.stack } := by
      refine e3.trans ?_
      rw [hf₂, State.calling_eq h.top, State.setFrames_setFrames, State.setTop_of_frames _ hr', hr]
      rfl
    have hsame : U.sameButNew ({ U with heap := s₂.heap, slotsUsed := s₂.slotsUsed } : State) L mc ms := by
      refine ⟨?_, q2, q3, q4, q5, q6⟩
      obtain ⟨t, ht, -⟩ := State.frames_cons hr
      show ({ U with heap := s₂.heap, slotsUsed := s₂.slotsUsed } : State) = { U.setFrames U.frames with heap := s₂.heap, slotsUsed := s₂.slotsUsed }
      rw [State.setFrames_self ht]
    subst hg
    refine Or.inl ⟨v, ⟨(({ U with heap := s₂.heap, slotsUsed := s₂.slotsUsed } : State).setVm s₂.vm), Ls ++ L, c0 + mc, s0 + ms⟩,
      ⟨X.admits, X.cas, X.clock, X.frames, X.room, X.hears, X.method, X.code, (X.here.setHeapUsed s₂.heap s₂.slotsUsed).setVm hW'.alike, X.tail, State.WarmedH.trans X.warmed hW', X.limits, X.bytes, X.same.trans (hsame.setVm s.vm)⟩,
      ⟨g, mk, s₂, L, rfl, rfl, hqc, rfl, hL, rfl, rfl⟩, ?_⟩
    show Steps p.tables e below _ ((({ U with heap := s₂.heap, slotsUsed := s₂.slotsUsed } : State).setVm s₂.vm).setTop { g with pc := g.pc + len₂, stack := v.toList ++ g.stack })
    rw [← hs₂]
    exact hsteps
  · obtain ⟨e2, q2, q3, q4, q5, q6⟩ := id hsm
    have e3 : s₂ = ({ (U.calling g mk a).setFrames s₂.frames with heap := s₂.heap, slotsUsed := s₂.slotsUsed } : State).setVm s₂.vm := by
      have : s₂ = ({ s₂ with vm := (U.calling g mk a).vm } : State).setVm s₂.vm := rfl
      rw [e2] at this
      exact this
    have hf₂ : s₂.frames = .throwing q :: .java g :: U.frames.tail := hend
    have hW' : U.WarmedH s₂.vm := hW₂
    have hs₂ : s₂ = ((({ U with heap := s₂.heap, slotsUsed := s₂.slotsUsed } : State).setVm s₂.vm).setTop g).pushFrame (.throwing q) := by
      refine e3.trans ?_
      rw [hf₂, State.calling_eq h.top, State.setFrames_setFrames, State.pushFrame, State.frames_setTop _ hr', State.setTop_of_frames _ hr', State.setFrames_setFrames, hr]
      rfl
    have hsame : U.sameButNew ({ U with heap := s₂.heap, slotsUsed := s₂.slotsUsed } : State) L mc ms := by
      refine ⟨?_, q2, q3, q4, q5, q6⟩
      obtain ⟨t, ht, -⟩ := State.frames_cons hr
      show ({ U with heap := s₂.heap, slotsUsed := s₂.slotsUsed } : State) = { U.setFrames U.frames with heap := s₂.heap, slotsUsed := s₂.slotsUsed }
      rw [State.setFrames_self ht]
    subst hg
    refine Or.inr ⟨q, ⟨(({ U with heap := s₂.heap, slotsUsed := s₂.slotsUsed } : State).setVm s₂.vm), Ls ++ L, c0 + mc, s0 + ms⟩,
      ⟨X.admits, X.cas, X.clock, X.frames, X.room, X.hears, X.method, X.code, (X.here.setHeapUsed s₂.heap s₂.slotsUsed).setVm hW'.alike, X.tail, State.WarmedH.trans X.warmed hW', X.limits, X.bytes, X.same.trans (hsame.setVm s.vm)⟩,
      ⟨g, mk, s₂, L, E, ce, rfl, rfl, hx, hce, hcv, hcl, rfl, hL, rfl, rfl⟩, ?_⟩
    show Steps p.tables e below _ (((({ U with heap := s₂.heap, slotsUsed := s₂.slotsUsed } : State).setVm s₂.vm).setTop g).pushFrame (.throwing q))
    rw [← hs₂]
    exact hsteps
end
variable {p : Program} {l : Launch} {e : Env} {R : Room} {s : State} {m : MethodId} {args : Array Value} {below : List Frame} {meth : Method} {c : Code} {T : State} {H : Heap} {locs : List Loc} {cells slots : Nat}
theorem vx_callVX (X : Stand p l e R s m args below meth c T locs cells slots) (hexec : p.tables.exec = Jvm.exec) {own C : String} {index : Nat} {y : MethodName} {bytes : ByteArray} {maxL : Nat} {ret : Option FieldType} {hh : List (Nat × Nat × Nat × Nat)}
    (hown : s.vm.findClass own = some m.cls) (hlink : (Cond.methodLink own index y).before args s = true) (hinst : (Cond.instanceMethod y).before args s = true) (hsel : (Cond.selects C y y).before args s = true)
    (hcode : (Cond.codeWith y bytes maxL ret hh).before args s = true) (hy : y.cls ≠ "java/lang/invoke/MethodHandle" ∧ y.cls ≠ "java/lang/invoke/VarHandle")
    {W9 : Nat} {Pre : Pt → Array Value → Prop} {Post : Pt → Array Value → Option Value → Pt → Prop} {PostX : Pt → Array Value → Addr → Pt → Prop} (hK : vx_Back l R p e below s args y 3 W9 Pre Post PostX)
    {b : Addr} {cellB : Cell} (hcell : T.heap[b]? = some cellB) (hobj : cellB.vm.isStatics = false) (hcls : s.vm.findClass C = some cellB.cls)
    {g : JFrame} (hg : g.method = m) (hsize : g.locals.size = c.maxLocals) {argsL rest : List Value} (hlen : ∀ sig, parseMethodDescriptor y.desc = some sig → argsL.length = sig.parameters.length)
    (hstack : g.stack = argsL.reverse ++ .ref b :: rest) (hW : 2 * g.monitorRoom + (rest.map fun v => v.category).sum ≤ W9) (hdg : decode c.code g.pc = .ok (.invokevirtual index, 3))
    (hpre : ∀ vm₁, s.WarmedH vm₁ → Pre ⟨T.setVm vm₁, locs, cells, slots⟩ (Value.ref b :: argsL).toArray) :
    (∃ (v : Option Value) (vm₁ : Vm) (B : Pt), s.WarmedH vm₁ ∧ Stand p l e R s m args below meth c B.U B.locs B.cells B.slots ∧ Post ⟨T.setVm vm₁, locs, cells, slots⟩ (Value.ref b :: argsL).toArray v B ∧
      ∀ target, Steps p.tables e below (B.U.setTop { g with pc := g.pc + 3, stack := v.toList ++ rest }) target → Steps p.tables e below (T.setTop g) target) ∨
    (∃ (q : Addr) (vm₁ : Vm) (B : Pt), s.WarmedH vm₁ ∧ Stand p l e R s m args below meth c B.U B.locs B.cells B.slots ∧ PostX ⟨T.setVm vm₁, locs, cells, slots⟩ (Value.ref b :: argsL).toArray q B ∧
      Steps p.tables e below (T.setTop g) ((B.U.setTop { g with stack := rest }).pushFrame (.throwing q))) := by
  obtain ⟨mk, methM, hnamed, hmethM, hstM, habM⟩ := Cond.instanceMethod_spec hinst
  obtain ⟨m8, methM', cM, hn8, hmethM', -, -, -, -, -, -, hsigM⟩ := Cond.codeWith_spec hcode
  cases Option.some.inj (hn8.symm.trans hnamed)
  cases hmethM.symm.trans hmethM'
  obtain ⟨c2, r2, m2, q1, q2, q3, q4, kP, hkP, hkPi⟩ := Cond.selects_spec hsel
  cases hcls.symm.trans q1
  cases (State.methodFound?_of_named hnamed hy).symm.trans q2
  cases hnamed.symm.trans q3
  have hselP : selectMethod e.platform s.vm cellB.cls mk = .method mk := by rw [Launch.admits_selectMethod X.admits]; exact q4
  obtain ⟨vm₁, X₁, hstep₁⟩ := X.invokevirtual hexec hown hlink hnamed hmethM hstM hkP hkPi hy (a := b) (cell := cellB) hcell
    (fun z h => by rw [h] at hobj; cases hobj) hselP hmethM habM hkP hkPi (g := g) hg (argsL := argsL) (rest := rest) (hlen _ hsigM) hstack hdg
  rcases hK m meth c ⟨T.setVm vm₁, locs, cells, slots⟩ { g with stack := rest } (.invokevirtual index) mk (Value.ref b :: argsL).toArray X₁ hg hsize hdg hW (X₁.named hnamed) (hpre vm₁ X₁.warmed) with ⟨v, B, X', hpost, hsteps⟩ | ⟨q, B, X', hpost, hsteps⟩
  · exact Or.inl ⟨v, vm₁, B, X₁.warmed, X', hpost, fun target h => hstep₁ _ fun acts => by rw [doInvoke_state]; exact hsteps.trans h⟩
  · exact Or.inr ⟨q, vm₁, B, X₁.warmed, X', hpost, hstep₁ _ fun acts => by rw [doInvoke_state]; exact hsteps⟩
theorem vx_callSX (X : Stand p l e R s m args below meth c T locs cells slots) (hexec : p.tables.exec = Jvm.exec) {own : String} {index : Nat} {y : MethodName} {bytes : ByteArray} {maxL : Nat} {ret : Option FieldType} {hh : List (Nat × Nat × Nat × Nat)}
    (hown : s.vm.findClass own = some m.cls) (hlink : (Cond.methodLink own index y).before args s = true) (hstat : (Cond.static y).before args s = true) (hinit : (Cond.initialized y.cls).before args s = true)
    (hcode : (Cond.codeWith y bytes maxL ret hh).before args s = true) (hy : y.cls ≠ "java/lang/invoke/MethodHandle" ∧ y.cls ≠ "java/lang/invoke/VarHandle")
    {W9 : Nat} {Pre : Pt → Array Value → Prop} {Post : Pt → Array Value → Option Value → Pt → Prop} {PostX : Pt → Array Value → Addr → Pt → Prop} (hK : vx_Back l R p e below s args y 3 W9 Pre Post PostX)
    {g : JFrame} (hg : g.method = m) (hsize : g.locals.size = c.maxLocals) {argsL rest : List Value} (hlen : ∀ sig, parseMethodDescriptor y.desc = some sig → argsL.length = sig.parameters.length)
    (hstack : g.stack = argsL.reverse ++ rest) (hW : 2 * g.monitorRoom + (rest.map fun v => v.category).sum ≤ W9) (hdg : decode c.code g.pc = .ok (.invokestatic index, 3))
    (hpre : ∀ vm₁, s.WarmedH vm₁ → Pre ⟨T.setVm vm₁, locs, cells, slots⟩ argsL.toArray) :
    (∃ (v : Option Value) (vm₁ : Vm) (B : Pt), s.WarmedH vm₁ ∧ Stand p l e R s m args below meth c B.U B.locs B.cells B.slots ∧ Post ⟨T.setVm vm₁, locs, cells, slots⟩ argsL.toArray v B ∧
      ∀ target, Steps p.tables e below (B.U.setTop { g with pc := g.pc + 3, stack := v.toList ++ rest }) target → Steps p.tables e below (T.setTop g) target) ∨
    (∃ (q : Addr) (vm₁ : Vm) (B : Pt), s.WarmedH vm₁ ∧ Stand p l e R s m args below meth c B.U B.locs B.cells B.slots ∧ PostX ⟨T.setVm vm₁, locs, cells, slots⟩ argsL.toArray q B ∧
      Steps p.tables e below (T.setTop g) ((B.U.setTop { g with stack := rest }).pushFrame (.throwing q))) := by
  obtain ⟨mk, methM, cM, hnamed, hmethM, -, -, -, -, -, -, hsigM⟩ := Cond.codeWith_spec hcode
  have hstatic : methM.isStatic = true := Cond.static_spec hnamed hmethM hstat
  obtain ⟨kP, hkP, -⟩ := className_of_methodNamed hnamed
  have hinitP : kP.init = .initialized := Cond.initialized_spec (findClass_of_methodNamed hnamed) hkP hinit
  obtain ⟨vm₁, X₁, hstep₁⟩ := X.invokestatic hexec hown hlink hnamed hmethM hstatic hkP hinitP hy (g := g) hg (argsL := argsL) (rest := rest) (hlen _ hsigM) hstack hdg
  rcases hK m meth c ⟨T.setVm vm₁, locs, cells, slots⟩ { g with stack := rest } (.invokestatic index) mk argsL.toArray X₁ hg hsize hdg hW (X₁.named hnamed) (hpre vm₁ X₁.warmed) with ⟨v, B, X', hpost, hsteps⟩ | ⟨q, B, X', hpost, hsteps⟩
  · exact Or.inl ⟨v, vm₁, B, X₁.warmed, X', hpost, fun target h => hstep₁ _ fun acts => by rw [doInvoke_state]; exact hsteps.trans h⟩
  · exact Or.inr ⟨q, vm₁, B, X₁.warmed, X', hpost, hstep₁ _ fun acts => by rw [doInvoke_state]; exact hsteps⟩
theorem vx_callVW (X : Stand p l e R s m args below meth c T locs cells slots) (hexec : p.tables.exec = Jvm.exec) {own C : String} {index : Nat} {y : MethodName} {bytes : ByteArray} {maxL : Nat} {ret : Option FieldType} {hh : List (Nat × Nat × Nat × Nat)}
    (hown : s.vm.findClass own = some m.cls) (hlink : (Cond.methodLink own index y).before args s = true) (hinst : (Cond.instanceMethod y).before args s = true) (hsel : (Cond.selects C y y).before args s = true)
    (hcode : (Cond.codeWith y bytes maxL ret hh).before args s = true) (hy : y.cls ≠ "java/lang/invoke/MethodHandle" ∧ y.cls ≠ "java/lang/invoke/VarHandle")
    {W9 : Nat} {Pre : Pt → Array Value → Prop} {Post : Pt → Array Value → Option Value → Pt → Prop} (hK : Back l R p e below s args y 3 W9 Pre Post)
    {b : Addr} {cellB : Cell} (hcell : T.heap[b]? = some cellB) (hobj : cellB.vm.isStatics = false) (hcls : s.vm.findClass C = some cellB.cls)
    {g : JFrame} (hg : g.method = m) (hsize : g.locals.size = c.maxLocals) {argsL rest : List Value} (hlen : ∀ sig, parseMethodDescriptor y.desc = some sig → argsL.length = sig.parameters.length)
    (hstack : g.stack = argsL.reverse ++ .ref b :: rest) (hW : 2 * g.monitorRoom + (rest.map fun v => v.category).sum ≤ W9) (hdg : decode c.code g.pc = .ok (.invokevirtual index, 3))
    (hpre : ∀ vm₁, s.WarmedH vm₁ → Pre ⟨T.setVm vm₁, locs, cells, slots⟩ (Value.ref b :: argsL).toArray) :
    ∃ (v : Option Value) (vm₁ : Vm) (B : Pt), s.WarmedH vm₁ ∧ Stand p l e R s m args below meth c B.U B.locs B.cells B.slots ∧ Post ⟨T.setVm vm₁, locs, cells, slots⟩ (Value.ref b :: argsL).toArray v B ∧
      ∀ target, Steps p.tables e below (B.U.setTop { g with pc := g.pc + 3, stack := v.toList ++ rest }) target → Steps p.tables e below (T.setTop g) target := by
  obtain ⟨mk, methM, hnamed, hmethM, hstM, habM⟩ := Cond.instanceMethod_spec hinst
  obtain ⟨m8, methM', cM, hn8, hmethM', -, -, -, -, -, -, hsigM⟩ := Cond.codeWith_spec hcode
  cases Option.some.inj (hn8.symm.trans hnamed)
  cases hmethM.symm.trans hmethM'
  obtain ⟨c2, r2, m2, q1, q2, q3, q4, kP, hkP, hkPi⟩ := Cond.selects_spec hsel
  cases hcls.symm.trans q1
  cases (State.methodFound?_of_named hnamed hy).symm.trans q2
  cases hnamed.symm.trans q3
  have hselP : selectMethod e.platform s.vm cellB.cls mk = .method mk := by rw [Launch.admits_selectMethod X.admits]; exact q4
  obtain ⟨vm₁, X₁, hstep₁⟩ := X.invokevirtual hexec hown hlink hnamed hmethM hstM hkP hkPi hy (a := b) (cell := cellB) hcell
    (fun z h => by rw [h] at hobj; cases hobj) hselP hmethM habM hkP hkPi (g := g) hg (argsL := argsL) (rest := rest) (hlen _ hsigM) hstack hdg
  obtain ⟨v, B, X', hpost, hsteps⟩ := hK m meth c ⟨T.setVm vm₁, locs, cells, slots⟩ { g with stack := rest } (.invokevirtual index) mk (Value.ref b :: argsL).toArray X₁ hg hsize hdg hW (X₁.named hnamed) (hpre vm₁ X₁.warmed)
  exact ⟨v, vm₁, B, X₁.warmed, X', hpost, fun target h => hstep₁ _ fun acts => by rw [doInvoke_state]; exact hsteps.trans h⟩
abbrev vx_CVW (R : Room) (s : State) (args : Array Value) (own C : String) (index : Nat) (y : MethodName) (bytes : ByteArray) (maxL : Nat) (ret : Option FieldType) (hh : List (Nat × Nat × Nat × Nat)) (ws : List Cond) (rm : Room) (mc ms n : Nat) : Prop :=
  (rm.cells = mc ∧ rm.slots = ms ∧ rm.frames + 1 ≤ R.frames ∧ 8 + (maxL + 11) + rm.locals ≤ R.locals ∧ (∀ w ∈ ws, ∀ (a' : Array Value) (U : State), s.WarmedH U.vm → w.before a' U = true) ∧ Cond.codeWith y bytes maxL ret hh ∈ ws) ∧
  (Cond.codeWith y bytes maxL ret hh).before args s = true ∧ (Cond.initialized y.cls).before args s = true ∧ (y.cls ≠ "java/lang/invoke/MethodHandle" ∧ y.cls ≠ "java/lang/invoke/VarHandle") ∧
  (∀ sig, parseMethodDescriptor y.desc = some sig → n = sig.parameters.length) ∧ (Cond.methodLink own index y).before args s = true ∧ (Cond.instanceMethod y).before args s = true ∧ (Cond.selects C y y).before args s = true
theorem vx_cwVW {own C : String} {index maxL mc ms : Nat} {y : MethodName} {bytes : ByteArray} {ret : Option FieldType} {hh : List (Nat × Nat × Nat × Nat)} {Ts ws ws' : List Cond} {rm : Room} (n : Nat) (ht : ∀ w ∈ Ts, w.before args s = true) (hT : GoodIn Ts (wsV own index C y ws)) (hw : ws = Cond.codeWith y bytes maxL ret hh :: ws') (hrc : rm.cells = mc) (hrs : rm.slots = ms)
    (hd : y.cls = C ∧ y.cls ≠ "java/lang/invoke/MethodHandle" ∧ y.cls ≠ "java/lang/invoke/VarHandle" ∧ (parseMethodDescriptor y.desc).map (fun d => d.parameters.length) = some n) (hR : rm.frames + 1 ≤ R.frames ∧ 8 + (maxL + 11) + rm.locals ≤ R.locals) :
    vx_CVW R s args own C index y bytes maxL ret hh ws rm mc ms n := by
  obtain ⟨hC, hd⟩ := hd
  subst hC
  have ok : ∀ w ∈ wsV own index y.cls y ws, w.before args s = true := fun w h => ht w (hT w h).1
  have hG : GoodIn Ts ws := fun w h => hT w (by unfold wsV; exact List.mem_append_right _ h)
  have hc : Cond.codeWith y bytes maxL ret hh ∈ ws := by rw [hw]; exact List.mem_cons_self
  refine ⟨⟨hrc, hrs, hR.1, hR.2, pay_in ht hG, hc⟩, ht _ (hG _ hc).1, ok _ (by simp [wsV]), ⟨hd.1, hd.2.1⟩, fun sig h => ?_, ok _ (by simp [wsV]), ok _ (by simp [wsV]), ok _ (by simp [wsV])⟩
  have h2 := hd.2.2
  rw [h] at h2
  exact (Option.some.inj h2).symm
theorem vx_runVW {y : MethodName} {bytes cc : ByteArray} {maxL nL mc ms n index : Nat} {ret : Option FieldType} {hh : List (Nat × Nat × Nat × Nat)} {ws : List Cond} {rm : Room} {Pc : Array Value → State → Prop} {Qc : Array Value → State → Outcome → State → Prop} {free : Addr → Prop} {Ts : List Cond} {own C : String} {b : Addr} {As rest : List Value} {g : JFrame}
    (S : CallFix p m c cc nL s args Ts own) (hM : Met l y ws rm Pc Qc mc ms free) (cw : vx_CVW R s args own C index y bytes maxL ret hh ws rm mc ms n) (hp : PreV s H C b Pc As)
    (hg : g.method = m) (hn : As.length = n) (hsize : g.locals.size = nL) (hstack : g.stack = As.reverse ++ .ref b :: rest) (hW : 2 * g.monitorRoom + (rest.map fun v => v.category).sum ≤ 8) (hdg : decode cc g.pc = .ok (.invokevirtual index, 3)) (hf : cells + mc ≤ R.cells ∧ slots + ms ≤ R.slots) :
    va_Run p l e R s m args below meth c H locs cells slots mc ms g rest (Qc (Value.ref b :: As).toArray) free := by
  obtain ⟨⟨hrc, hrs, hfr, hlo, hws, hcw⟩, hcode, hini, hy, hlen, hl, hin, hse⟩ := cw
  have hK : Back l R p e below s args y 3 8 (PreOf R mc ms Pc) (PostOf Qc mc ms free) := va_backW (hh := hh) (bytes := bytes) (maxL := maxL) (ret := ret) hM hp.1 hrc hrs hfr hlo hws hcw (fun a' U hW => word_at hW (Or.inl (by first | rfl | simp [Cond.onTables, Cond.keeps, Cond.steady])) hini)
  obtain ⟨hx, hb, hml, ho, -⟩ := S
  obtain ⟨-, ⟨cellB, hcB, hoB, hclB⟩, hPc⟩ := hp
  intro T hT X
  obtain ⟨v, vm₁, ⟨U', l2, c2, s2⟩, hW₁, X', ⟨g', mk, t, L, e1, e2, hq, h1, hL, h2, h3⟩, st⟩ := vx_callVW X hx (C := C) (hh := hh) (bytes := bytes) (maxL := maxL) (ret := ret) ho hl hin hse hcode hy hK (by rw [hT]; exact hcB) hoB hclB hg (hsize.trans hml.symm) (argsL := As) (rest := rest) (fun sig h => hn.trans (hlen sig h)) hstack hW (by rw [hb]; exact hdg)
    (fun vm₁ hW₁ => ⟨hf.1, hf.2, hPc (T.setVm vm₁) hT hW₁⟩)
  dsimp only [Pt.U, Pt.locs, Pt.cells, Pt.slots] at X' e1 e2 h1 h2 h3 st
  subst h1; subst h2; subst h3
  exact ⟨v, (T.setVm vm₁).calling g' mk (Value.ref b :: As).toArray, t, U', L, hT, X', hL, e1, e2, hq, st⟩
section
variable {y : MethodName} {bytes cc : ByteArray} {maxL nL mc ms n index : Nat} {ret : Option FieldType} {ws : List Cond} {rm : Room} {Pc : Array Value → State → Prop} {Qc : Array Value → State → Outcome → State → Prop} {XC : String → State → State → Prop} {free : Addr → Prop} {Ts : List Cond} {own C : String} {b : Addr} {As rest : List Value} {g : JFrame}
theorem vx_runVX {hh : List (Nat × Nat × Nat × Nat)} (S : CallFix p m c cc nL s args Ts own) (hM : vx_Met l y ws rm Pc Qc XC mc ms free) (cw : vx_CVW R s args own C index y bytes maxL ret hh ws rm mc ms n) (hp : PreV s H C b Pc As)
    (hg : g.method = m) (hn : As.length = n) (hsize : g.locals.size = nL) (hstack : g.stack = As.reverse ++ .ref b :: rest) (hW : 2 * g.monitorRoom + (rest.map fun v => v.category).sum ≤ 8) (hdg : decode cc g.pc = .ok (.invokevirtual index, 3)) (hf : cells + mc ≤ R.cells ∧ slots + ms ≤ R.slots) :
    vx_Run p l e R s m args below meth c H locs cells slots mc ms g rest (Qc (Value.ref b :: As).toArray) XC free := by
  obtain ⟨⟨hrc, hrs, hfr, hlo, hws, hcw⟩, hcode, hini, hy, hlen, hl, hin, hse⟩ := cw
  have hK : vx_Back l R p e below s args y 3 8 (PreOf R mc ms Pc) (PostOf Qc mc ms free) (vx_Post XC mc ms free) := vx_backW (hh := hh) (bytes := bytes) (maxL := maxL) (ret := ret) hM hp.1 hrc hrs hfr hlo hws hcw (fun a' U hW => word_at hW (Or.inl (by first | rfl | simp [Cond.onTables, Cond.keeps, Cond.steady])) hini)
  obtain ⟨hx, hb, hml, ho, -⟩ := S
  obtain ⟨-, ⟨cellB, hcB, hoB, hclB⟩, hPc⟩ := hp
  intro T hT X
  rcases vx_callVX X hx (C := C) (hh := hh) (bytes := bytes) (maxL := maxL) (ret := ret) ho hl hin hse hcode hy hK (by rw [hT]; exact hcB) hoB hclB hg (hsize.trans hml.symm) (argsL := As) (rest := rest) (fun sig h => hn.trans (hlen sig h)) hstack hW (by rw [hb]; exact hdg)
    (fun vm₁ hW₁ => ⟨hf.1, hf.2, hPc (T.setVm vm₁) hT hW₁⟩) with ⟨v, vm₁, ⟨U', l2, c2, s2⟩, hW₁, X', ⟨g', mk, t, L, e1, e2, hq, h1, hL, h2, h3⟩, st⟩ | ⟨q, vm₁, ⟨U', l2, c2, s2⟩, hW₁, X', ⟨g', mk, t, L, E, ce, e1, e2, hq, hce, hcv, hcl, h1, hL, h2, h3⟩, st⟩
  · dsimp only [Pt.U, Pt.locs, Pt.cells, Pt.slots] at X' e1 e2 h1 h2 h3 st
    subst h1; subst h2; subst h3
    exact Or.inl ⟨v, (T.setVm vm₁).calling g' mk (Value.ref b :: As).toArray, t, U', L, hT, X', hL, e1, e2, hq, st⟩
  · dsimp only [Pt.U, Pt.locs, Pt.cells, Pt.slots] at X' e1 e2 h1 h2 h3 st hcl
    subst h1; subst h2; subst h3
    exact Or.inr ⟨q, (T.setVm vm₁).calling g' mk (Value.ref b :: As).toArray, t, U', L, E, ce, hT, X', hL, e1, e2, hq, hce, hcv, vx_cls hW₁ hcl, st⟩
theorem vx_runSX {hh : List (Nat × Nat × Nat × Nat)} (S : CallFix p m c cc nL s args Ts own) (hM : vx_Met l y ws rm Pc Qc XC mc ms free) (cw : vx_CSW R s args own index y bytes maxL ret hh ws rm mc ms n) (hp : PreS s H Pc As)
    (hg : g.method = m) (hn : As.length = n) (hsize : g.locals.size = nL) (hstack : g.stack = As.reverse ++ rest) (hW : 2 * g.monitorRoom + (rest.map fun v => v.category).sum ≤ 8) (hdg : decode cc g.pc = .ok (.invokestatic index, 3)) (hf : cells + mc ≤ R.cells ∧ slots + ms ≤ R.slots) :
    vx_Run p l e R s m args below meth c H locs cells slots mc ms g rest (Qc As.toArray) XC free := by
  obtain ⟨⟨hrc, hrs, hfr, hlo, hws, hcw⟩, hcode, hini, hy, hlen, hl, hstt⟩ := cw
  have hK : vx_Back l R p e below s args y 3 8 (PreOf R mc ms Pc) (PostOf Qc mc ms free) (vx_Post XC mc ms free) := vx_backW (hh := hh) (bytes := bytes) (maxL := maxL) (ret := ret) hM hp.1 hrc hrs hfr hlo hws hcw (fun a' U hW => word_at hW (Or.inl (by first | rfl | simp [Cond.onTables, Cond.keeps, Cond.steady])) hini)
  obtain ⟨hx, hb, hml, ho, -⟩ := S
  intro T hT X
  rcases vx_callSX X hx (hh := hh) (bytes := bytes) (maxL := maxL) (ret := ret) ho hl hstt hini hcode hy hK hg (hsize.trans hml.symm) (argsL := As) (rest := rest) (fun sig h => hn.trans (hlen sig h)) hstack hW (by rw [hb]; exact hdg)
    (fun vm₁ hW₁ => ⟨hf.1, hf.2, hp.2 (T.setVm vm₁) hT hW₁⟩) with ⟨v, vm₁, ⟨U', l2, c2, s2⟩, hW₁, X', ⟨g', mk, t, L, e1, e2, hq, h1, hL, h2, h3⟩, st⟩ | ⟨q, vm₁, ⟨U', l2, c2, s2⟩, hW₁, X', ⟨g', mk, t, L, E, ce, e1, e2, hq, hce, hcv, hcl, h1, hL, h2, h3⟩, st⟩
  · dsimp only [Pt.U, Pt.locs, Pt.cells, Pt.slots] at X' e1 e2 h1 h2 h3 st
    subst h1; subst h2; subst h3
    exact Or.inl ⟨v, (T.setVm vm₁).calling g' mk As.toArray, t, U', L, hT, X', hL, e1, e2, hq, st⟩
  · dsimp only [Pt.U, Pt.locs, Pt.cells, Pt.slots] at X' e1 e2 h1 h2 h3 st hcl
    subst h1; subst h2; subst h3
    exact Or.inr ⟨q, (T.setVm vm₁).calling g' mk As.toArray, t, U', L, E, ce, hT, X', hL, e1, e2, hq, hce, hcv, vx_cls hW₁ hcl, st⟩
end
end VXH
theorem vx_ofWH {l : Launch} {y : MethodName} {ws ws' : List Cond} {rm : Room} {Pc : Array Value → State → Prop} {Qc : Array Value → State → Outcome → State → Prop} {XC : String → State → State → Prop} {mc ms : Nat} {free : Addr → Prop} {cc : ByteArray} {maxL : Nat} {ret : Option FieldType} {hh : List (Nat × Nat × Nat × Nat)}
    (hy : plainName y.cls = true) (hw : ws = Cond.codeWith y cc maxL ret hh :: ws')
    (body : ∀ p e s m args below meth c s₁, BodyLoose p l y (headSpec ws rm) cc maxL ret e s m args below meth c s₁ → c.maxLocals = maxL → Pc args s →
      W p l e (headSpec ws rm).room s m args below meth c s.heap [] 0 0 (vx_MQ below Qc XC args s mc ms free) (entryFrame m args maxL)) : vx_Met l y ws rm Pc Qc XC mc ms free := by
  refine MetFree.of_bodyS (code := cc) (maxLocals := maxL) (ret := ret) hy ?_ ?_
  · intro args s m h hn
    obtain ⟨m9, meth, c, hn9, h1, h2, h3, h4, -, h5, h6, -⟩ := Cond.codeWith_spec (atoms_spec (ws := ws) h _ (by rw [hw]; exact List.mem_cons_self))
    cases hn.symm.trans hn9
    exact ⟨meth, c, h1, h2, h3, h4, h5, h6⟩
  · intro p e s m args below meth c s₁ B hml hP _
    have hh0 : s₁.heap = s.heap := by rw [B.state]; rfl
    obtain ⟨t, a1, o, b1, b2, b3⟩ := body p e s m args below meth c s₁ B hml hP s₁ hh0 (Stand.of_body B)
    exact ⟨t, o, a1, b1, b2, b3⟩
/-! ===== END ===== -/
end
section
/-! ===== BEGIN printed: names, fields, word lists, decode rows ===== -/
def RX0 : String := "LampRoom$Alarms"
def TX0 : u_T := fun k => match k with
  | _ => ("LampRoom$Alarms", "began", "[I", true)
def tyX0 : Nat → FieldType := fun k => match k with
  | _ => .array .int
abbrev wsX00 : List Cond := u_ws RX0 TX0 1
theorem nmX0 : ∀ a, a < 1 → ∀ b, b < 1 → a ≠ b → (TX0 a).2.1 ≠ (TX0 b).2.1 := by decide +kernel
theorem tyX0_ok : ∀ k, k < 1 → parseFieldDescriptor (TX0 k).2.2.1 = some (tyX0 k) := by decide +kernel
abbrev cX0_init : ByteArray := prog_2_method_1_code
def yX0_init : MethodName := ⟨RX0, "<init>", "()V"⟩
abbrev cX0_begin : ByteArray := prog_2_method_2_code
def yX0_begin : MethodName := ⟨RX0, "begin", "(III)Z"⟩
abbrev cX0_end : ByteArray := prog_2_method_3_code
def yX0_end : MethodName := ⟨RX0, "end", "(I)V"⟩
abbrev cX0_lastingAt : ByteArray := prog_2_method_4_code
def yX0_lastingAt : MethodName := ⟨RX0, "lastingAt", "(I)I"⟩
abbrev cX0_countAhead : ByteArray := prog_2_method_5_code
def yX0_countAhead : MethodName := ⟨RX0, "countAhead", "(I)I"⟩
abbrev cX0_isAhead : ByteArray := prog_2_method_6_code
def yX0_isAhead : MethodName := ⟨RX0, "isAhead", "(II)Z"⟩
def RX1 : String := "LampRoom$Lamps"
def TX1 : u_T := fun k => match k with
  | 0 => ("LampRoom$Lamps", "kinds", "[I", true)
  | 1 => ("LampRoom$Lamps", "places", "[I", true)
  | 2 => ("LampRoom$Lamps", "turns", "[I", true)
  | 3 => ("LampRoom$Lamps", "leaks", "[Z", true)
  | 4 => ("LampRoom$Lamps", "charges", "[D", true)
  | 5 => ("LampRoom$Lamps", "capacities", "[D", true)
  | _ => ("LampRoom$Lamps", "count", "I", false)
def tyX1 : Nat → FieldType := fun k => match k with
  | 0 => .array .int
  | 1 => .array .int
  | 2 => .array .int
  | 3 => .array .boolean
  | 4 => .array .double
  | 5 => .array .double
  | _ => .int
abbrev wsX10 : List Cond := u_ws RX1 TX1 7
theorem nmX1 : ∀ a, a < 7 → ∀ b, b < 7 → a ≠ b → (TX1 a).2.1 ≠ (TX1 b).2.1 := by decide +kernel
theorem tyX1_ok : ∀ k, k < 7 → parseFieldDescriptor (TX1 k).2.2.1 = some (tyX1 k) := by decide +kernel
abbrev cX1_init : ByteArray := prog_3_method_1_code
def yX1_init : MethodName := ⟨RX1, "<init>", "()V"⟩
abbrev cX1_size : ByteArray := prog_3_method_2_code
def yX1_size : MethodName := ⟨RX1, "size", "()I"⟩
abbrev cX1_kindAt : ByteArray := prog_3_method_3_code
def yX1_kindAt : MethodName := ⟨RX1, "kindAt", "(I)I"⟩
abbrev cX1_placeAt : ByteArray := prog_3_method_4_code
def yX1_placeAt : MethodName := ⟨RX1, "placeAt", "(I)I"⟩
abbrev cX1_turnsAt : ByteArray := prog_3_method_5_code
def yX1_turnsAt : MethodName := ⟨RX1, "turnsAt", "(I)I"⟩
abbrev cX1_chargeAt : ByteArray := prog_3_method_6_code
def yX1_chargeAt : MethodName := ⟨RX1, "chargeAt", "(I)D"⟩
abbrev cX1_capacityAt : ByteArray := prog_3_method_7_code
def yX1_capacityAt : MethodName := ⟨RX1, "capacityAt", "(I)D"⟩
abbrev cX1_hangNew : ByteArray := prog_3_method_8_code
def yX1_hangNew : MethodName := ⟨RX1, "hangNew", "(I)I"⟩
abbrev cX1_moveTo : ByteArray := prog_3_method_9_code
def yX1_moveTo : MethodName := ⟨RX1, "moveTo", "(II)V"⟩
abbrev cX1_endLeak : ByteArray := prog_3_method_10_code
def yX1_endLeak : MethodName := ⟨RX1, "endLeak", "(I)V"⟩
abbrev cX1_takeBack : ByteArray := prog_3_method_11_code
def yX1_takeBack : MethodName := ⟨RX1, "takeBack", "(I)V"⟩
abbrev cX1_faultAt : ByteArray := prog_3_method_12_code
def yX1_faultAt : MethodName := ⟨RX1, "faultAt", "(I)I"⟩
abbrev cX1_bestFor : ByteArray := prog_3_method_13_code
def yX1_bestFor : MethodName := ⟨RX1, "bestFor", "(I)I"⟩
abbrev cX1_fullestOf : ByteArray := prog_3_method_14_code
def yX1_fullestOf : MethodName := ⟨RX1, "fullestOf", "(I)I"⟩
abbrev cX1_countIssuable : ByteArray := prog_3_method_15_code
def yX1_countIssuable : MethodName := ⟨RX1, "countIssuable", "(I)I"⟩
abbrev cX1_isIssuable : ByteArray := prog_3_method_16_code
def yX1_isIssuable : MethodName := ⟨RX1, "isIssuable", "(II)Z"⟩
abbrev cX1_burn : ByteArray := prog_3_method_17_code
def yX1_burn : MethodName := ⟨RX1, "burn", "()V"⟩
abbrev cX1_load : ByteArray := prog_3_method_18_code
def yX1_load : MethodName := ⟨RX1, "load", "()V"⟩
abbrev cX1_hundredthsOnRack : ByteArray := prog_3_method_19_code
def yX1_hundredthsOnRack : MethodName := ⟨RX1, "hundredthsOnRack", "()I"⟩
abbrev cX1_newCapacity : ByteArray := prog_3_method_20_code
def yX1_newCapacity : MethodName := ⟨RX1, "newCapacity", "(I)D"⟩
def RX2 : String := "LampRoom$Tallies"
def TX2 : u_T := fun k => match k with
  | 0 => ("LampRoom$Tallies", "kinds", "[I", true)
  | 1 => ("LampRoom$Tallies", "held", "[I", true)
  | 2 => ("LampRoom$Tallies", "hours", "[I", true)
  | 3 => ("LampRoom$Tallies", "orders", "[I", true)
  | 4 => ("LampRoom$Tallies", "count", "I", false)
  | _ => ("LampRoom$Tallies", "issued", "I", false)
def tyX2 : Nat → FieldType := fun k => match k with
  | 0 => .array .int
  | 1 => .array .int
  | 2 => .array .int
  | 3 => .array .int
  | 4 => .int
  | _ => .int
abbrev wsX20 : List Cond := u_ws RX2 TX2 6
theorem nmX2 : ∀ a, a < 6 → ∀ b, b < 6 → a ≠ b → (TX2 a).2.1 ≠ (TX2 b).2.1 := by decide +kernel
theorem tyX2_ok : ∀ k, k < 6 → parseFieldDescriptor (TX2 k).2.2.1 = some (tyX2 k) := by decide +kernel
abbrev cX2_init : ByteArray := prog_4_method_1_code
def yX2_init : MethodName := ⟨RX2, "<init>", "()V"⟩
abbrev cX2_size : ByteArray := prog_4_method_2_code
def yX2_size : MethodName := ⟨RX2, "size", "()I"⟩
abbrev cX2_kindAt : ByteArray := prog_4_method_3_code
def yX2_kindAt : MethodName := ⟨RX2, "kindAt", "(I)I"⟩
abbrev cX2_lampHeld : ByteArray := prog_4_method_4_code
def yX2_lampHeld : MethodName := ⟨RX2, "lampHeld", "(I)I"⟩
abbrev cX2_hungAt : ByteArray := prog_4_method_5_code
def yX2_hungAt : MethodName := ⟨RX2, "hungAt", "(I)I"⟩
abbrev cX2_enter : ByteArray := prog_4_method_6_code
def yX2_enter : MethodName := ⟨RX2, "enter", "(I)I"⟩
abbrev cX2_hangUp : ByteArray := prog_4_method_7_code
def yX2_hangUp : MethodName := ⟨RX2, "hangUp", "(III)V"⟩
abbrev cX2_takeDown : ByteArray := prog_4_method_8_code
def yX2_takeDown : MethodName := ⟨RX2, "takeDown", "(I)V"⟩
abbrev cX2_onBoard : ByteArray := prog_4_method_9_code
def yX2_onBoard : MethodName := ⟨RX2, "onBoard", "()I"⟩
abbrev cX2_onBoardAt : ByteArray := prog_4_method_10_code
def yX2_onBoardAt : MethodName := ⟨RX2, "onBoardAt", "(I)I"⟩
abbrev cX2_countAhead : ByteArray := prog_4_method_11_code
def yX2_countAhead : MethodName := ⟨RX2, "countAhead", "(I)I"⟩
def RX3 : String := "LampRoom"
def TX3 : u_T := fun k => match k with
  | 0 => ("LampRoom", "lamps", "LLampRoom$Lamps;", true)
  | 1 => ("LampRoom", "tallies", "LLampRoom$Tallies;", true)
  | 2 => ("LampRoom", "alarms", "LLampRoom$Alarms;", true)
  | _ => ("LampRoom", "clock", "I", false)
def tyX3 : Nat → FieldType := fun k => match k with
  | 0 => .object "LampRoom$Lamps"
  | 1 => .object "LampRoom$Tallies"
  | 2 => .object "LampRoom$Alarms"
  | _ => .int
abbrev wsX30 : List Cond := u_ws RX3 TX3 4
theorem nmX3 : ∀ a, a < 4 → ∀ b, b < 4 → a ≠ b → (TX3 a).2.1 ≠ (TX3 b).2.1 := by decide +kernel
theorem tyX3_ok : ∀ k, k < 4 → parseFieldDescriptor (TX3 k).2.2.1 = some (tyX3 k) := by decide +kernel
abbrev cX3_init : ByteArray := prog_1_method_1_code
def yX3_init : MethodName := ⟨RX3, "<init>", "()V"⟩
abbrev cX3_addLamp : ByteArray := prog_1_method_2_code
def yX3_addLamp : MethodName := ⟨RX3, "addLamp", "(I)I"⟩
abbrev cX3_addMiner : ByteArray := prog_1_method_3_code
def yX3_addMiner : MethodName := ⟨RX3, "addMiner", "(I)I"⟩
abbrev cX3_issue : ByteArray := prog_1_method_4_code
def yX3_issue : MethodName := ⟨RX3, "issue", "(I)I"⟩
abbrev cX3_back : ByteArray := prog_1_method_5_code
def yX3_back : MethodName := ⟨RX3, "back", "(I)I"⟩
abbrev cX3_test : ByteArray := prog_1_method_6_code
def yX3_test : MethodName := ⟨RX3, "test", "(I)I"⟩
abbrev cX3_mend : ByteArray := prog_1_method_7_code
def yX3_mend : MethodName := ⟨RX3, "mend", "(I)Z"⟩
abbrev cX3_hours : ByteArray := prog_1_method_8_code
def yX3_hours : MethodName := ⟨RX3, "hours", "(I)I"⟩
abbrev cX3_below : ByteArray := prog_1_method_9_code
def yX3_below : MethodName := ⟨RX3, "below", "()I"⟩
abbrev cX3_board : ByteArray := prog_1_method_10_code
def yX3_board : MethodName := ⟨RX3, "board", "(I)I"⟩
abbrev cX3_lampOf : ByteArray := prog_1_method_11_code
def yX3_lampOf : MethodName := ⟨RX3, "lampOf", "(I)I"⟩
abbrev cX3_hoursBelow : ByteArray := prog_1_method_12_code
def yX3_hoursBelow : MethodName := ⟨RX3, "hoursBelow", "(I)I"⟩
abbrev cX3_placeOf : ByteArray := prog_1_method_13_code
def yX3_placeOf : MethodName := ⟨RX3, "placeOf", "(I)I"⟩
abbrev cX3_chargeOf : ByteArray := prog_1_method_14_code
def yX3_chargeOf : MethodName := ⟨RX3, "chargeOf", "(I)D"⟩
abbrev cX3_capacityOf : ByteArray := prog_1_method_15_code
def yX3_capacityOf : MethodName := ⟨RX3, "capacityOf", "(I)D"⟩
abbrev cX3_turnsOf : ByteArray := prog_1_method_16_code
def yX3_turnsOf : MethodName := ⟨RX3, "turnsOf", "(I)I"⟩
abbrev cX3_ready : ByteArray := prog_1_method_17_code
def yX3_ready : MethodName := ⟨RX3, "ready", "(I)I"⟩
abbrev cX3_spares : ByteArray := prog_1_method_18_code
def yX3_spares : MethodName := ⟨RX3, "spares", "()I"⟩
abbrev cX3_alarm : ByteArray := prog_1_method_19_code
def yX3_alarm : MethodName := ⟨RX3, "alarm", "(I)I"⟩
abbrev cX3_lightLeft : ByteArray := prog_1_method_20_code
def yX3_lightLeft : MethodName := ⟨RX3, "lightLeft", "(I)I"⟩
abbrev cX3_rackCharge : ByteArray := prog_1_method_21_code
def yX3_rackCharge : MethodName := ⟨RX3, "rackCharge", "()I"⟩
abbrev cX3_checkKind : ByteArray := prog_1_method_22_code
def yX3_checkKind : MethodName := ⟨RX3, "checkKind", "(I)V"⟩
abbrev cX3_checkMiner : ByteArray := prog_1_method_23_code
def yX3_checkMiner : MethodName := ⟨RX3, "checkMiner", "(I)V"⟩
abbrev cX3_checkLamp : ByteArray := prog_1_method_24_code
def yX3_checkLamp : MethodName := ⟨RX3, "checkLamp", "(I)V"⟩
abbrev cX3_passHour : ByteArray := prog_1_method_25_code
def yX3_passHour : MethodName := ⟨RX3, "passHour", "()I"⟩
abbrev cX3_beginAlarms : ByteArray := prog_1_method_26_code
def yX3_beginAlarms : MethodName := ⟨RX3, "beginAlarms", "(II)I"⟩
def RX4 : String := "LampRoomModel"
def TX4 : u_T := fun k => match k with
  | _ => ("", "", "", false)
def tyX4 : Nat → FieldType := fun k => match k with
  | _ => .int
abbrev wsX40 : List Cond := u_ws RX4 TX4 0
theorem nmX4 : ∀ a, a < 0 → ∀ b, b < 0 → a ≠ b → (TX4 a).2.1 ≠ (TX4 b).2.1 := by decide +kernel
theorem tyX4_ok : ∀ k, k < 0 → parseFieldDescriptor (TX4 k).2.2.1 = some (tyX4 k) := by decide +kernel
def RJ0 : String := "java/lang/String"
def TJ0 : u_T := fun k => match k with
  | _ => ("", "", "", false)
def tyJ0 : Nat → FieldType := fun k => match k with
  | _ => .int
abbrev wsJ00 : List Cond := u_ws RJ0 TJ0 0
theorem nmJ0 : ∀ a, a < 0 → ∀ b, b < 0 → a ≠ b → (TJ0 a).2.1 ≠ (TJ0 b).2.1 := by decide +kernel
theorem tyJ0_ok : ∀ k, k < 0 → parseFieldDescriptor (TJ0 k).2.2.1 = some (tyJ0 k) := by decide +kernel
def RL : String := "LampRoomLaw"
abbrev cL_cell : ByteArray := method_2_code
def yL_cell : MethodName := ⟨RL, "cell", "([II)I"⟩
abbrev cL_low : ByteArray := method_3_code
def yL_low : MethodName := ⟨RL, "low", "(II)I"⟩
abbrev cL_addLamp : ByteArray := method_4_code
def yL_addLamp : MethodName := ⟨RL, "addLamp", "(LLampRoom;I)I"⟩
abbrev cL_addMiner : ByteArray := method_5_code
def yL_addMiner : MethodName := ⟨RL, "addMiner", "(LLampRoom;I)I"⟩
abbrev cL_issue : ByteArray := method_6_code
def yL_issue : MethodName := ⟨RL, "issue", "(LLampRoom;I)I"⟩
abbrev cL_back : ByteArray := method_7_code
def yL_back : MethodName := ⟨RL, "back", "(LLampRoom;I)I"⟩
abbrev cL_test : ByteArray := method_8_code
def yL_test : MethodName := ⟨RL, "test", "(LLampRoom;I)I"⟩
abbrev cL_mend : ByteArray := method_9_code
def yL_mend : MethodName := ⟨RL, "mend", "(LLampRoom;I)I"⟩
abbrev cL_hours : ByteArray := method_10_code
def yL_hours : MethodName := ⟨RL, "hours", "(LLampRoom;I)I"⟩
abbrev cL_ready : ByteArray := method_11_code
def yL_ready : MethodName := ⟨RL, "ready", "(LLampRoom;I)I"⟩
abbrev cL_placeOf : ByteArray := method_12_code
def yL_placeOf : MethodName := ⟨RL, "placeOf", "(LLampRoom;I)I"⟩
abbrev cL_lampOf : ByteArray := method_13_code
def yL_lampOf : MethodName := ⟨RL, "lampOf", "(LLampRoom;I)I"⟩
abbrev cL_fresh : ByteArray := method_14_code
def yL_fresh : MethodName := ⟨RL, "fresh", "(I)D"⟩
abbrev cL_isWeak : ByteArray := method_15_code
def yL_isWeak : MethodName := ⟨RL, "isWeak", "([I[DI)Z"⟩
abbrev cL_next : ByteArray := method_16_code
def yL_next : MethodName := ⟨RL, "next", "([I[D[II)I"⟩
abbrev cL_hour : ByteArray := method_17_code
def yL_hour : MethodName := ⟨RL, "hour", "([I[D[D[I[I[I[I[I)I"⟩
abbrev cL_isRead : ByteArray := method_18_code
def yL_isRead : MethodName := ⟨RL, "isRead", "(LLampRoom;[I[I[I[I[I[I)Z"⟩
abbrev cL_isRacked : ByteArray := method_19_code
def yL_isRacked : MethodName := ⟨RL, "isRacked", "(LLampRoom;[I[D[D[I[I[I)Z"⟩
abbrev cL_keeps : ByteArray := method_20_code
def yL_keeps : MethodName := ⟨RL, "keeps", "(LLampRoom;II[I[D[D[I[I[I[I[I[I[I)Z"⟩
abbrev cL_law : ByteArray := code
def yL_law : MethodName := ⟨RL, "law", "([I)Z"⟩
def wsX0_init : List Cond := .code yX0_init cX0_init 1 none :: ([.methodLink RX0 3 objectInit, .instanceMethod objectInit, .code objectInit ⟨#[0xb1]⟩ 1 none, .arrayClass .int, .fieldLink RX0 9 "LampRoom$Alarms" "began" "[I"] ++ wsX00)
def wsX0_begin : List Cond := .code yX0_begin cX0_begin 5 (some .boolean) :: ([.fieldLink RX0 9 "LampRoom$Alarms" "began" "[I"] ++ wsX00)
def wsX0_end : List Cond := .code yX0_end cX0_end 2 none :: ([.fieldLink RX0 9 "LampRoom$Alarms" "began" "[I"] ++ wsX00)
def wsX0_isAhead : List Cond := .code yX0_isAhead cX0_isAhead 3 (some .boolean) :: ([.fieldLink RX0 9 "LampRoom$Alarms" "began" "[I"] ++ wsX00)
def wsX0_countAhead : List Cond := .code yX0_countAhead cX0_countAhead 4 (some .int) :: ([.fieldLink RX0 9 "LampRoom$Alarms" "began" "[I", .methodLink RX0 19 yX0_isAhead, .instanceMethod yX0_isAhead, .selects RX0 yX0_isAhead yX0_isAhead, .initialized RX0, .code yX0_isAhead cX0_isAhead 3 (some .boolean)] ++ wsX00)
def wsX0_lastingAt : List Cond := .code yX0_lastingAt cX0_lastingAt 3 (some .int) :: ([.fieldLink RX0 9 "LampRoom$Alarms" "began" "[I", .methodLink RX0 15 yX0_countAhead, .instanceMethod yX0_countAhead, .selects RX0 yX0_countAhead yX0_countAhead, .initialized RX0, .code yX0_countAhead cX0_countAhead 4 (some .int), .methodLink RX0 19 yX0_isAhead, .instanceMethod yX0_isAhead, .selects RX0 yX0_isAhead yX0_isAhead, .code yX0_isAhead cX0_isAhead 3 (some .boolean)] ++ wsX00)
def wsX1_init : List Cond := .code yX1_init cX1_init 1 none :: ([.methodLink RX1 3 objectInit, .instanceMethod objectInit, .code objectInit ⟨#[0xb1]⟩ 1 none, .arrayClass .int, .fieldLink RX1 9 "LampRoom$Lamps" "kinds" "[I", .fieldLink RX1 15 "LampRoom$Lamps" "places" "[I", .fieldLink RX1 18 "LampRoom$Lamps" "turns" "[I", .arrayClass .boolean, .fieldLink RX1 21 "LampRoom$Lamps" "leaks" "[Z", .arrayClass .double, .fieldLink RX1 25 "LampRoom$Lamps" "charges" "[D", .fieldLink RX1 29 "LampRoom$Lamps" "capacities" "[D", .fieldLink RX1 32 "LampRoom$Lamps" "count" "I"] ++ wsX10)
def wsX1_size : List Cond := .code yX1_size cX1_size 1 (some .int) :: ([.fieldLink RX1 32 "LampRoom$Lamps" "count" "I"] ++ wsX10)
def wsX1_kindAt : List Cond := .code yX1_kindAt cX1_kindAt 2 (some .int) :: ([.fieldLink RX1 9 "LampRoom$Lamps" "kinds" "[I"] ++ wsX10)
def wsX1_placeAt : List Cond := .code yX1_placeAt cX1_placeAt 2 (some .int) :: ([.fieldLink RX1 15 "LampRoom$Lamps" "places" "[I"] ++ wsX10)
def wsX1_turnsAt : List Cond := .code yX1_turnsAt cX1_turnsAt 2 (some .int) :: ([.fieldLink RX1 18 "LampRoom$Lamps" "turns" "[I"] ++ wsX10)
def wsX1_chargeAt : List Cond := .code yX1_chargeAt cX1_chargeAt 2 (some .double) :: ([.fieldLink RX1 25 "LampRoom$Lamps" "charges" "[D"] ++ wsX10)
def wsX1_capacityAt : List Cond := .code yX1_capacityAt cX1_capacityAt 2 (some .double) :: ([.fieldLink RX1 29 "LampRoom$Lamps" "capacities" "[D"] ++ wsX10)
def wsX1_newCapacity : List Cond := .code yX1_newCapacity cX1_newCapacity 1 (some .double) :: ([.constantDouble RX1 60 (4622945017495814144), .constantDouble RX1 62 (4625196817309499392), .constantDouble RX1 64 (4626322717216342016)])
def wsX1_hangNew : List Cond := .code yX1_hangNew cX1_hangNew 3 (some .int) :: ([.fieldLink RX1 32 "LampRoom$Lamps" "count" "I", .fieldLink RX1 9 "LampRoom$Lamps" "kinds" "[I", .fieldLink RX1 15 "LampRoom$Lamps" "places" "[I", .fieldLink RX1 29 "LampRoom$Lamps" "capacities" "[D", .fieldLink RX1 25 "LampRoom$Lamps" "charges" "[D", .methodLink RX1 36 yX1_newCapacity, .static yX1_newCapacity, .initialized RX1, .code yX1_newCapacity cX1_newCapacity 1 (some .double), .constantDouble RX1 60 (4622945017495814144), .constantDouble RX1 62 (4625196817309499392), .constantDouble RX1 64 (4626322717216342016)] ++ wsX10)
def wsX1_moveTo : List Cond := .code yX1_moveTo cX1_moveTo 3 none :: ([.fieldLink RX1 15 "LampRoom$Lamps" "places" "[I"] ++ wsX10)
def wsX1_endLeak : List Cond := .code yX1_endLeak cX1_endLeak 2 none :: ([.fieldLink RX1 21 "LampRoom$Lamps" "leaks" "[Z"] ++ wsX10)
def wsX1_takeBack : List Cond := .code yX1_takeBack cX1_takeBack 2 none :: ([.fieldLink RX1 15 "LampRoom$Lamps" "places" "[I", .fieldLink RX1 18 "LampRoom$Lamps" "turns" "[I", .fieldLink RX1 21 "LampRoom$Lamps" "leaks" "[Z", .fieldLink RX1 29 "LampRoom$Lamps" "capacities" "[D", .constantDouble RX1 40 (4606912202822375178), .fieldLink RX1 25 "LampRoom$Lamps" "charges" "[D"] ++ wsX10)
def wsX1_faultAt : List Cond := .code yX1_faultAt cX1_faultAt 2 (some .int) :: ([.fieldLink RX1 21 "LampRoom$Lamps" "leaks" "[Z", .fieldLink RX1 29 "LampRoom$Lamps" "capacities" "[D", .constantDouble RX1 42 (4604930618986332160), .fieldLink RX1 9 "LampRoom$Lamps" "kinds" "[I", .methodLink RX1 36 yX1_newCapacity, .static yX1_newCapacity, .initialized RX1, .code yX1_newCapacity cX1_newCapacity 1 (some .double), .constantDouble RX1 60 (4622945017495814144), .constantDouble RX1 62 (4625196817309499392), .constantDouble RX1 64 (4626322717216342016)] ++ wsX10)
def wsX1_isIssuable : List Cond := .code yX1_isIssuable cX1_isIssuable 3 (some .boolean) :: ([.fieldLink RX1 9 "LampRoom$Lamps" "kinds" "[I", .fieldLink RX1 15 "LampRoom$Lamps" "places" "[I", .fieldLink RX1 25 "LampRoom$Lamps" "charges" "[D", .constantDouble RX1 52 (4621256167635550208)] ++ wsX10)
def wsX1_fullestOf : List Cond := .code yX1_fullestOf cX1_fullestOf 4 (some .int) :: ([.fieldLink RX1 32 "LampRoom$Lamps" "count" "I", .fieldLink RX1 25 "LampRoom$Lamps" "charges" "[D", .methodLink RX1 48 yX1_isIssuable, .instanceMethod yX1_isIssuable, .selects RX1 yX1_isIssuable yX1_isIssuable, .initialized RX1, .code yX1_isIssuable cX1_isIssuable 3 (some .boolean), .fieldLink RX1 9 "LampRoom$Lamps" "kinds" "[I", .fieldLink RX1 15 "LampRoom$Lamps" "places" "[I", .constantDouble RX1 52 (4621256167635550208)] ++ wsX10)
def wsX1_bestFor : List Cond := .code yX1_bestFor cX1_bestFor 4 (some .int) :: ([.methodLink RX1 44 yX1_fullestOf, .instanceMethod yX1_fullestOf, .selects RX1 yX1_fullestOf yX1_fullestOf, .initialized RX1, .code yX1_fullestOf cX1_fullestOf 4 (some .int), .fieldLink RX1 32 "LampRoom$Lamps" "count" "I", .fieldLink RX1 25 "LampRoom$Lamps" "charges" "[D", .methodLink RX1 48 yX1_isIssuable, .instanceMethod yX1_isIssuable, .selects RX1 yX1_isIssuable yX1_isIssuable, .code yX1_isIssuable cX1_isIssuable 3 (some .boolean), .fieldLink RX1 9 "LampRoom$Lamps" "kinds" "[I", .fieldLink RX1 15 "LampRoom$Lamps" "places" "[I", .constantDouble RX1 52 (4621256167635550208)] ++ wsX10)
def wsX1_countIssuable : List Cond := .code yX1_countIssuable cX1_countIssuable 4 (some .int) :: ([.fieldLink RX1 32 "LampRoom$Lamps" "count" "I", .methodLink RX1 48 yX1_isIssuable, .instanceMethod yX1_isIssuable, .selects RX1 yX1_isIssuable yX1_isIssuable, .initialized RX1, .code yX1_isIssuable cX1_isIssuable 3 (some .boolean), .fieldLink RX1 9 "LampRoom$Lamps" "kinds" "[I", .fieldLink RX1 15 "LampRoom$Lamps" "places" "[I", .fieldLink RX1 25 "LampRoom$Lamps" "charges" "[D", .constantDouble RX1 52 (4621256167635550208)] ++ wsX10)
def wsX1_burn : List Cond := .code yX1_burn cX1_burn 4 none :: ([.fieldLink RX1 32 "LampRoom$Lamps" "count" "I", .fieldLink RX1 15 "LampRoom$Lamps" "places" "[I", .fieldLink RX1 21 "LampRoom$Lamps" "leaks" "[Z", .constantDouble RX1 54 (4609434218613702656), .fieldLink RX1 25 "LampRoom$Lamps" "charges" "[D"] ++ wsX10)
def wsX1_load : List Cond := .code yX1_load cX1_load 5 none :: ([.fieldLink RX1 32 "LampRoom$Lamps" "count" "I", .fieldLink RX1 15 "LampRoom$Lamps" "places" "[I", .fieldLink RX1 25 "LampRoom$Lamps" "charges" "[D", .fieldLink RX1 29 "LampRoom$Lamps" "capacities" "[D", .constantDouble RX1 56 (4612811918334230528)] ++ wsX10)
def wsX1_hundredthsOnRack : List Cond := .code yX1_hundredthsOnRack cX1_hundredthsOnRack 6 (some .int) :: ([.fieldLink RX1 32 "LampRoom$Lamps" "count" "I", .fieldLink RX1 15 "LampRoom$Lamps" "places" "[I", .fieldLink RX1 25 "LampRoom$Lamps" "charges" "[D", .fieldLink RX1 29 "LampRoom$Lamps" "capacities" "[D", .constantDouble RX1 58 (4636737291354636288)] ++ wsX10)
def wsX2_init : List Cond := .code yX2_init cX2_init 1 none :: ([.methodLink RX2 3 objectInit, .instanceMethod objectInit, .code objectInit ⟨#[0xb1]⟩ 1 none, .arrayClass .int, .fieldLink RX2 9 "LampRoom$Tallies" "kinds" "[I", .fieldLink RX2 15 "LampRoom$Tallies" "held" "[I", .fieldLink RX2 18 "LampRoom$Tallies" "hours" "[I", .fieldLink RX2 21 "LampRoom$Tallies" "orders" "[I", .fieldLink RX2 24 "LampRoom$Tallies" "count" "I", .fieldLink RX2 28 "LampRoom$Tallies" "issued" "I"] ++ wsX20)
def wsX2_size : List Cond := .code yX2_size cX2_size 1 (some .int) :: ([.fieldLink RX2 24 "LampRoom$Tallies" "count" "I"] ++ wsX20)
def wsX2_kindAt : List Cond := .code yX2_kindAt cX2_kindAt 2 (some .int) :: ([.fieldLink RX2 9 "LampRoom$Tallies" "kinds" "[I"] ++ wsX20)
def wsX2_lampHeld : List Cond := .code yX2_lampHeld cX2_lampHeld 2 (some .int) :: ([.fieldLink RX2 15 "LampRoom$Tallies" "held" "[I"] ++ wsX20)
def wsX2_hungAt : List Cond := .code yX2_hungAt cX2_hungAt 2 (some .int) :: ([.fieldLink RX2 18 "LampRoom$Tallies" "hours" "[I"] ++ wsX20)
def wsX2_enter : List Cond := .code yX2_enter cX2_enter 3 (some .int) :: ([.fieldLink RX2 24 "LampRoom$Tallies" "count" "I", .fieldLink RX2 9 "LampRoom$Tallies" "kinds" "[I", .fieldLink RX2 15 "LampRoom$Tallies" "held" "[I"] ++ wsX20)
def wsX2_hangUp : List Cond := .code yX2_hangUp cX2_hangUp 4 none :: ([.fieldLink RX2 15 "LampRoom$Tallies" "held" "[I", .fieldLink RX2 18 "LampRoom$Tallies" "hours" "[I", .fieldLink RX2 21 "LampRoom$Tallies" "orders" "[I", .fieldLink RX2 28 "LampRoom$Tallies" "issued" "I"] ++ wsX20)
def wsX2_takeDown : List Cond := .code yX2_takeDown cX2_takeDown 2 none :: ([.fieldLink RX2 15 "LampRoom$Tallies" "held" "[I"] ++ wsX20)
def wsX2_onBoard : List Cond := .code yX2_onBoard cX2_onBoard 3 (some .int) :: ([.fieldLink RX2 24 "LampRoom$Tallies" "count" "I", .fieldLink RX2 15 "LampRoom$Tallies" "held" "[I"] ++ wsX20)
def wsX2_countAhead : List Cond := .code yX2_countAhead cX2_countAhead 4 (some .int) :: ([.fieldLink RX2 24 "LampRoom$Tallies" "count" "I", .fieldLink RX2 15 "LampRoom$Tallies" "held" "[I", .fieldLink RX2 21 "LampRoom$Tallies" "orders" "[I"] ++ wsX20)
def wsX2_onBoardAt : List Cond := .code yX2_onBoardAt cX2_onBoardAt 3 (some .int) :: ([.fieldLink RX2 24 "LampRoom$Tallies" "count" "I", .fieldLink RX2 15 "LampRoom$Tallies" "held" "[I", .methodLink RX2 31 yX2_countAhead, .instanceMethod yX2_countAhead, .selects RX2 yX2_countAhead yX2_countAhead, .initialized RX2, .code yX2_countAhead cX2_countAhead 4 (some .int), .fieldLink RX2 21 "LampRoom$Tallies" "orders" "[I"] ++ wsX20)
def wsX3_init_r1 : List Cond := [Cond.methodLink RX3 1 objectInit, Cond.instanceMethod objectInit, Cond.code objectInit ⟨#[0xb1]⟩ 1 none, Cond.classLink RX3 7 RX1, Cond.instantiable RX1 7, Cond.initialized RX1, Cond.fieldLink RX3 10 "LampRoom" "lamps" "LLampRoom$Lamps;", Cond.classLink RX3 16 RX2, Cond.instantiable RX2 6, Cond.initialized RX2, Cond.fieldLink RX3 19 "LampRoom" "tallies" "LLampRoom$Tallies;", Cond.classLink RX3 23 RX0, Cond.instantiable RX0 1, Cond.initialized RX0, Cond.fieldLink RX3 26 "LampRoom" "alarms" "LLampRoom$Alarms;", Cond.fieldLink RX3 30 "LampRoom" "clock" "I", Cond.instanceMethod yX1_init, Cond.code yX1_init cX1_init 1 none, Cond.methodLink RX1 3 objectInit, Cond.arrayClass .int, Cond.fieldLink RX1 9 "LampRoom$Lamps" "kinds" "[I", Cond.fieldLink RX1 15 "LampRoom$Lamps" "places" "[I", Cond.fieldLink RX1 18 "LampRoom$Lamps" "turns" "[I", Cond.arrayClass .boolean]
def wsX3_init_r2 : List Cond := [Cond.fieldLink RX1 21 "LampRoom$Lamps" "leaks" "[Z", Cond.arrayClass .double, Cond.fieldLink RX1 25 "LampRoom$Lamps" "charges" "[D", Cond.fieldLink RX1 29 "LampRoom$Lamps" "capacities" "[D", Cond.fieldLink RX1 32 "LampRoom$Lamps" "count" "I", Cond.instanceMethod yX2_init, Cond.code yX2_init cX2_init 1 none, Cond.methodLink RX2 3 objectInit, Cond.fieldLink RX2 9 "LampRoom$Tallies" "kinds" "[I", Cond.fieldLink RX2 15 "LampRoom$Tallies" "held" "[I", Cond.fieldLink RX2 18 "LampRoom$Tallies" "hours" "[I", Cond.fieldLink RX2 21 "LampRoom$Tallies" "orders" "[I", Cond.fieldLink RX2 24 "LampRoom$Tallies" "count" "I", Cond.fieldLink RX2 28 "LampRoom$Tallies" "issued" "I", Cond.instanceMethod yX0_init, Cond.code yX0_init cX0_init 1 none, Cond.methodLink RX0 3 objectInit, Cond.fieldLink RX0 9 "LampRoom$Alarms" "began" "[I"]
def wsX3_init : List Cond := .code yX3_init cX3_init 1 none :: ((wsX3_init_r1 ++ wsX3_init_r2) ++ wsX10 ++ wsX30 ++ wsX20 ++ wsX00)
def wsX3_checkKind : List Cond := .code yX3_checkKind cX3_checkKind 1 none :: ([.classLink RX3 113 "java/lang/IllegalArgumentException", .initialized "java/lang/IllegalArgumentException"] ++ (vx_atS RX3 117 "java/lang/IllegalArgumentException" ["java/lang/RuntimeException", "java/lang/Exception"]).filter goodWord)
def wsX3_addLamp_r1 : List Cond := [Cond.classLink RX3 42 "java/lang/IllegalStateException", Cond.initialized "java/lang/IllegalStateException", Cond.fieldLink RX3 10 "LampRoom" "lamps" "LLampRoom$Lamps;", Cond.methodLink RX3 34 yX3_checkKind, Cond.static yX3_checkKind, Cond.initialized RX3, Cond.code yX3_checkKind cX3_checkKind 1 none, Cond.classLink RX3 113 "java/lang/IllegalArgumentException", Cond.initialized "java/lang/IllegalArgumentException", Cond.methodLink RX3 38 yX1_size, Cond.instanceMethod yX1_size, Cond.selects RX1 yX1_size yX1_size, Cond.initialized RX1, Cond.code yX1_size cX1_size 1 (some .int), Cond.fieldLink RX1 32 "LampRoom$Lamps" "count" "I", Cond.methodLink RX3 49 yX1_hangNew, Cond.instanceMethod yX1_hangNew, Cond.selects RX1 yX1_hangNew yX1_hangNew, Cond.code yX1_hangNew cX1_hangNew 3 (some .int), Cond.fieldLink RX1 9 "LampRoom$Lamps" "kinds" "[I", Cond.fieldLink RX1 15 "LampRoom$Lamps" "places" "[I", Cond.fieldLink RX1 29 "LampRoom$Lamps" "capacities" "[D", Cond.fieldLink RX1 25 "LampRoom$Lamps" "charges" "[D", Cond.methodLink RX1 36 yX1_newCapacity]
def wsX3_addLamp_r2 : List Cond := [Cond.static yX1_newCapacity, Cond.code yX1_newCapacity cX1_newCapacity 1 (some .double), Cond.constantDouble RX1 60 (4622945017495814144), Cond.constantDouble RX1 62 (4625196817309499392), Cond.constantDouble RX1 64 (4626322717216342016)]
def wsX3_addLamp : List Cond := .code yX3_addLamp cX3_addLamp 2 (some .int) :: ((wsX3_addLamp_r1 ++ wsX3_addLamp_r2) ++ wsX30 ++ wsX10 ++ (vx_atS RX3 46 "java/lang/IllegalStateException" ["java/lang/RuntimeException", "java/lang/Exception"]).filter goodWord ++ (vx_atS RX3 117 "java/lang/IllegalArgumentException" ["java/lang/RuntimeException", "java/lang/Exception"]).filter goodWord)
def wsX3_addMiner : List Cond := .code yX3_addMiner cX3_addMiner 2 (some .int) :: ([.classLink RX3 42 "java/lang/IllegalStateException", .initialized "java/lang/IllegalStateException", .fieldLink RX3 19 "LampRoom" "tallies" "LLampRoom$Tallies;", .methodLink RX3 34 yX3_checkKind, .static yX3_checkKind, .initialized RX3, .code yX3_checkKind cX3_checkKind 1 none, .classLink RX3 113 "java/lang/IllegalArgumentException", .initialized "java/lang/IllegalArgumentException", .methodLink RX3 53 yX2_size, .instanceMethod yX2_size, .selects RX2 yX2_size yX2_size, .initialized RX2, .code yX2_size cX2_size 1 (some .int), .fieldLink RX2 24 "LampRoom$Tallies" "count" "I", .methodLink RX3 56 yX2_enter, .instanceMethod yX2_enter, .selects RX2 yX2_enter yX2_enter, .code yX2_enter cX2_enter 3 (some .int), .fieldLink RX2 9 "LampRoom$Tallies" "kinds" "[I", .fieldLink RX2 15 "LampRoom$Tallies" "held" "[I"] ++ wsX30 ++ wsX20 ++ (vx_atS RX3 46 "java/lang/IllegalStateException" ["java/lang/RuntimeException", "java/lang/Exception"]).filter goodWord ++ (vx_atS RX3 117 "java/lang/IllegalArgumentException" ["java/lang/RuntimeException", "java/lang/Exception"]).filter goodWord)
def wsX3_checkMiner : List Cond := .code yX3_checkMiner cX3_checkMiner 2 none :: ([.classLink RX3 149 "java/lang/IndexOutOfBoundsException", .initialized "java/lang/IndexOutOfBoundsException", .fieldLink RX3 19 "LampRoom" "tallies" "LLampRoom$Tallies;", .methodLink RX3 53 yX2_size, .instanceMethod yX2_size, .selects RX2 yX2_size yX2_size, .initialized RX2, .code yX2_size cX2_size 1 (some .int), .fieldLink RX2 24 "LampRoom$Tallies" "count" "I"] ++ wsX30 ++ wsX20 ++ (vx_atS RX3 153 "java/lang/IndexOutOfBoundsException" ["java/lang/RuntimeException", "java/lang/Exception"]).filter goodWord)
def wsX3_issue_r1 : List Cond := [Cond.classLink RX3 42 "java/lang/IllegalStateException", Cond.initialized "java/lang/IllegalStateException", Cond.fieldLink RX3 19 "LampRoom" "tallies" "LLampRoom$Tallies;", Cond.fieldLink RX3 10 "LampRoom" "lamps" "LLampRoom$Lamps;", Cond.fieldLink RX3 30 "LampRoom" "clock" "I", Cond.methodLink RX3 59 yX3_checkMiner, Cond.instanceMethod yX3_checkMiner, Cond.selects RX3 yX3_checkMiner yX3_checkMiner, Cond.initialized RX3, Cond.code yX3_checkMiner cX3_checkMiner 2 none, Cond.classLink RX3 149 "java/lang/IndexOutOfBoundsException", Cond.initialized "java/lang/IndexOutOfBoundsException", Cond.methodLink RX3 53 yX2_size, Cond.instanceMethod yX2_size, Cond.selects RX2 yX2_size yX2_size, Cond.initialized RX2, Cond.code yX2_size cX2_size 1 (some .int), Cond.fieldLink RX2 24 "LampRoom$Tallies" "count" "I", Cond.methodLink RX3 62 yX2_lampHeld, Cond.instanceMethod yX2_lampHeld, Cond.selects RX2 yX2_lampHeld yX2_lampHeld, Cond.code yX2_lampHeld cX2_lampHeld 2 (some .int), Cond.fieldLink RX2 15 "LampRoom$Tallies" "held" "[I", Cond.methodLink RX3 67 yX2_kindAt]
def wsX3_issue_r2 : List Cond := [Cond.instanceMethod yX2_kindAt, Cond.selects RX2 yX2_kindAt yX2_kindAt, Cond.code yX2_kindAt cX2_kindAt 2 (some .int), Cond.fieldLink RX2 9 "LampRoom$Tallies" "kinds" "[I", Cond.methodLink RX3 70 yX1_bestFor, Cond.instanceMethod yX1_bestFor, Cond.selects RX1 yX1_bestFor yX1_bestFor, Cond.initialized RX1, Cond.code yX1_bestFor cX1_bestFor 4 (some .int), Cond.methodLink RX1 44 yX1_fullestOf, Cond.instanceMethod yX1_fullestOf, Cond.selects RX1 yX1_fullestOf yX1_fullestOf, Cond.code yX1_fullestOf cX1_fullestOf 4 (some .int), Cond.fieldLink RX1 32 "LampRoom$Lamps" "count" "I", Cond.fieldLink RX1 25 "LampRoom$Lamps" "charges" "[D", Cond.methodLink RX1 48 yX1_isIssuable, Cond.instanceMethod yX1_isIssuable, Cond.selects RX1 yX1_isIssuable yX1_isIssuable, Cond.code yX1_isIssuable cX1_isIssuable 3 (some .boolean), Cond.fieldLink RX1 9 "LampRoom$Lamps" "kinds" "[I", Cond.fieldLink RX1 15 "LampRoom$Lamps" "places" "[I", Cond.constantDouble RX1 52 (4621256167635550208), Cond.methodLink RX3 75 yX1_moveTo, Cond.instanceMethod yX1_moveTo]
def wsX3_issue_r3 : List Cond := [Cond.selects RX1 yX1_moveTo yX1_moveTo, Cond.code yX1_moveTo cX1_moveTo 3 none, Cond.methodLink RX3 79 yX2_hangUp, Cond.instanceMethod yX2_hangUp, Cond.selects RX2 yX2_hangUp yX2_hangUp, Cond.code yX2_hangUp cX2_hangUp 4 none, Cond.fieldLink RX2 18 "LampRoom$Tallies" "hours" "[I", Cond.fieldLink RX2 21 "LampRoom$Tallies" "orders" "[I", Cond.fieldLink RX2 28 "LampRoom$Tallies" "issued" "I"]
def wsX3_issue : List Cond := .code yX3_issue cX3_issue 3 (some .int) :: ((wsX3_issue_r1 ++ (wsX3_issue_r2 ++ wsX3_issue_r3)) ++ wsX30 ++ wsX20 ++ wsX10 ++ (vx_atS RX3 46 "java/lang/IllegalStateException" ["java/lang/RuntimeException", "java/lang/Exception"]).filter goodWord ++ (vx_atS RX3 153 "java/lang/IndexOutOfBoundsException" ["java/lang/RuntimeException", "java/lang/Exception"]).filter goodWord)
def wsX3_back_r1 : List Cond := [Cond.classLink RX3 42 "java/lang/IllegalStateException", Cond.initialized "java/lang/IllegalStateException", Cond.fieldLink RX3 19 "LampRoom" "tallies" "LLampRoom$Tallies;", Cond.fieldLink RX3 30 "LampRoom" "clock" "I", Cond.fieldLink RX3 10 "LampRoom" "lamps" "LLampRoom$Lamps;", Cond.fieldLink RX3 26 "LampRoom" "alarms" "LLampRoom$Alarms;", Cond.methodLink RX3 59 yX3_checkMiner, Cond.instanceMethod yX3_checkMiner, Cond.selects RX3 yX3_checkMiner yX3_checkMiner, Cond.initialized RX3, Cond.code yX3_checkMiner cX3_checkMiner 2 none, Cond.classLink RX3 149 "java/lang/IndexOutOfBoundsException", Cond.initialized "java/lang/IndexOutOfBoundsException", Cond.methodLink RX3 53 yX2_size, Cond.instanceMethod yX2_size, Cond.selects RX2 yX2_size yX2_size, Cond.initialized RX2, Cond.code yX2_size cX2_size 1 (some .int), Cond.fieldLink RX2 24 "LampRoom$Tallies" "count" "I", Cond.methodLink RX3 62 yX2_lampHeld, Cond.instanceMethod yX2_lampHeld, Cond.selects RX2 yX2_lampHeld yX2_lampHeld, Cond.code yX2_lampHeld cX2_lampHeld 2 (some .int), Cond.fieldLink RX2 15 "LampRoom$Tallies" "held" "[I"]
def wsX3_back_r2 : List Cond := [Cond.methodLink RX3 85 yX2_hungAt, Cond.instanceMethod yX2_hungAt, Cond.selects RX2 yX2_hungAt yX2_hungAt, Cond.code yX2_hungAt cX2_hungAt 2 (some .int), Cond.fieldLink RX2 18 "LampRoom$Tallies" "hours" "[I", Cond.methodLink RX3 88 yX1_takeBack, Cond.instanceMethod yX1_takeBack, Cond.selects RX1 yX1_takeBack yX1_takeBack, Cond.initialized RX1, Cond.code yX1_takeBack cX1_takeBack 2 none, Cond.fieldLink RX1 15 "LampRoom$Lamps" "places" "[I", Cond.fieldLink RX1 18 "LampRoom$Lamps" "turns" "[I", Cond.fieldLink RX1 21 "LampRoom$Lamps" "leaks" "[Z", Cond.fieldLink RX1 29 "LampRoom$Lamps" "capacities" "[D", Cond.constantDouble RX1 40 (4606912202822375178), Cond.fieldLink RX1 25 "LampRoom$Lamps" "charges" "[D", Cond.methodLink RX3 91 yX2_takeDown, Cond.instanceMethod yX2_takeDown, Cond.selects RX2 yX2_takeDown yX2_takeDown, Cond.code yX2_takeDown cX2_takeDown 2 none, Cond.methodLink RX3 94 yX0_end, Cond.instanceMethod yX0_end, Cond.selects RX0 yX0_end yX0_end, Cond.initialized RX0]
def wsX3_back_r3 : List Cond := [Cond.code yX0_end cX0_end 2 none, Cond.fieldLink RX0 9 "LampRoom$Alarms" "began" "[I"]
def wsX3_back : List Cond := .code yX3_back cX3_back 4 (some .int) :: ((wsX3_back_r1 ++ (wsX3_back_r2 ++ wsX3_back_r3)) ++ wsX30 ++ wsX20 ++ wsX10 ++ wsX00 ++ (vx_atS RX3 46 "java/lang/IllegalStateException" ["java/lang/RuntimeException", "java/lang/Exception"]).filter goodWord ++ (vx_atS RX3 153 "java/lang/IndexOutOfBoundsException" ["java/lang/RuntimeException", "java/lang/Exception"]).filter goodWord)
def wsX3_checkLamp : List Cond := .code yX3_checkLamp cX3_checkLamp 2 none :: ([.classLink RX3 149 "java/lang/IndexOutOfBoundsException", .initialized "java/lang/IndexOutOfBoundsException", .fieldLink RX3 10 "LampRoom" "lamps" "LLampRoom$Lamps;", .methodLink RX3 38 yX1_size, .instanceMethod yX1_size, .selects RX1 yX1_size yX1_size, .initialized RX1, .code yX1_size cX1_size 1 (some .int), .fieldLink RX1 32 "LampRoom$Lamps" "count" "I"] ++ wsX30 ++ wsX10 ++ (vx_atS RX3 153 "java/lang/IndexOutOfBoundsException" ["java/lang/RuntimeException", "java/lang/Exception"]).filter goodWord)
def wsX3_test_r1 : List Cond := [Cond.classLink RX3 42 "java/lang/IllegalStateException", Cond.initialized "java/lang/IllegalStateException", Cond.fieldLink RX3 10 "LampRoom" "lamps" "LLampRoom$Lamps;", Cond.methodLink RX3 97 yX3_checkLamp, Cond.instanceMethod yX3_checkLamp, Cond.selects RX3 yX3_checkLamp yX3_checkLamp, Cond.initialized RX3, Cond.code yX3_checkLamp cX3_checkLamp 2 none, Cond.classLink RX3 149 "java/lang/IndexOutOfBoundsException", Cond.initialized "java/lang/IndexOutOfBoundsException", Cond.methodLink RX3 38 yX1_size, Cond.instanceMethod yX1_size, Cond.selects RX1 yX1_size yX1_size, Cond.initialized RX1, Cond.code yX1_size cX1_size 1 (some .int), Cond.fieldLink RX1 32 "LampRoom$Lamps" "count" "I", Cond.methodLink RX3 100 yX1_placeAt, Cond.instanceMethod yX1_placeAt, Cond.selects RX1 yX1_placeAt yX1_placeAt, Cond.code yX1_placeAt cX1_placeAt 2 (some .int), Cond.fieldLink RX1 15 "LampRoom$Lamps" "places" "[I", Cond.methodLink RX3 105 yX1_faultAt, Cond.instanceMethod yX1_faultAt, Cond.selects RX1 yX1_faultAt yX1_faultAt]
def wsX3_test_r2 : List Cond := [Cond.code yX1_faultAt cX1_faultAt 2 (some .int), Cond.fieldLink RX1 21 "LampRoom$Lamps" "leaks" "[Z", Cond.fieldLink RX1 29 "LampRoom$Lamps" "capacities" "[D", Cond.constantDouble RX1 42 (4604930618986332160), Cond.fieldLink RX1 9 "LampRoom$Lamps" "kinds" "[I", Cond.methodLink RX1 36 yX1_newCapacity, Cond.static yX1_newCapacity, Cond.code yX1_newCapacity cX1_newCapacity 1 (some .double), Cond.constantDouble RX1 60 (4622945017495814144), Cond.constantDouble RX1 62 (4625196817309499392), Cond.constantDouble RX1 64 (4626322717216342016), Cond.methodLink RX3 75 yX1_moveTo, Cond.instanceMethod yX1_moveTo, Cond.selects RX1 yX1_moveTo yX1_moveTo, Cond.code yX1_moveTo cX1_moveTo 3 none]
def wsX3_test : List Cond := .code yX3_test cX3_test 3 (some .int) :: ((wsX3_test_r1 ++ wsX3_test_r2) ++ wsX30 ++ wsX10 ++ (vx_atS RX3 46 "java/lang/IllegalStateException" ["java/lang/RuntimeException", "java/lang/Exception"]).filter goodWord ++ (vx_atS RX3 153 "java/lang/IndexOutOfBoundsException" ["java/lang/RuntimeException", "java/lang/Exception"]).filter goodWord)
def wsX3_mend_r1 : List Cond := [Cond.classLink RX3 42 "java/lang/IllegalStateException", Cond.initialized "java/lang/IllegalStateException", Cond.fieldLink RX3 10 "LampRoom" "lamps" "LLampRoom$Lamps;", Cond.methodLink RX3 97 yX3_checkLamp, Cond.instanceMethod yX3_checkLamp, Cond.selects RX3 yX3_checkLamp yX3_checkLamp, Cond.initialized RX3, Cond.code yX3_checkLamp cX3_checkLamp 2 none, Cond.classLink RX3 149 "java/lang/IndexOutOfBoundsException", Cond.initialized "java/lang/IndexOutOfBoundsException", Cond.methodLink RX3 38 yX1_size, Cond.instanceMethod yX1_size, Cond.selects RX1 yX1_size yX1_size, Cond.initialized RX1, Cond.code yX1_size cX1_size 1 (some .int), Cond.fieldLink RX1 32 "LampRoom$Lamps" "count" "I", Cond.methodLink RX3 100 yX1_placeAt, Cond.instanceMethod yX1_placeAt, Cond.selects RX1 yX1_placeAt yX1_placeAt, Cond.code yX1_placeAt cX1_placeAt 2 (some .int), Cond.fieldLink RX1 15 "LampRoom$Lamps" "places" "[I", Cond.methodLink RX3 110 yX1_endLeak, Cond.instanceMethod yX1_endLeak, Cond.selects RX1 yX1_endLeak yX1_endLeak]
def wsX3_mend_r2 : List Cond := [Cond.code yX1_endLeak cX1_endLeak 2 none, Cond.fieldLink RX1 21 "LampRoom$Lamps" "leaks" "[Z", Cond.methodLink RX3 105 yX1_faultAt, Cond.instanceMethod yX1_faultAt, Cond.selects RX1 yX1_faultAt yX1_faultAt, Cond.code yX1_faultAt cX1_faultAt 2 (some .int), Cond.fieldLink RX1 29 "LampRoom$Lamps" "capacities" "[D", Cond.constantDouble RX1 42 (4604930618986332160), Cond.fieldLink RX1 9 "LampRoom$Lamps" "kinds" "[I", Cond.methodLink RX1 36 yX1_newCapacity, Cond.static yX1_newCapacity, Cond.code yX1_newCapacity cX1_newCapacity 1 (some .double), Cond.constantDouble RX1 60 (4622945017495814144), Cond.constantDouble RX1 62 (4625196817309499392), Cond.constantDouble RX1 64 (4626322717216342016), Cond.methodLink RX3 75 yX1_moveTo, Cond.instanceMethod yX1_moveTo, Cond.selects RX1 yX1_moveTo yX1_moveTo, Cond.code yX1_moveTo cX1_moveTo 3 none]
def wsX3_mend : List Cond := .code yX3_mend cX3_mend 3 (some .boolean) :: ((wsX3_mend_r1 ++ wsX3_mend_r2) ++ wsX30 ++ wsX10 ++ (vx_atS RX3 46 "java/lang/IllegalStateException" ["java/lang/RuntimeException", "java/lang/Exception"]).filter goodWord ++ (vx_atS RX3 153 "java/lang/IndexOutOfBoundsException" ["java/lang/RuntimeException", "java/lang/Exception"]).filter goodWord)
def wsX3_beginAlarms : List Cond := .code yX3_beginAlarms cX3_beginAlarms 4 (some .int) :: ([.fieldLink RX3 30 "LampRoom" "clock" "I", .fieldLink RX3 19 "LampRoom" "tallies" "LLampRoom$Tallies;", .fieldLink RX3 26 "LampRoom" "alarms" "LLampRoom$Alarms;", .fieldLink RX3 10 "LampRoom" "lamps" "LLampRoom$Lamps;", .methodLink RX3 85 yX2_hungAt, .instanceMethod yX2_hungAt, .selects RX2 yX2_hungAt yX2_hungAt, .initialized RX2, .code yX2_hungAt cX2_hungAt 2 (some .int), .fieldLink RX2 18 "LampRoom$Tallies" "hours" "[I", .methodLink RX3 166 yX0_begin, .instanceMethod yX0_begin, .selects RX0 yX0_begin yX0_begin, .initialized RX0, .code yX0_begin cX0_begin 5 (some .boolean), .fieldLink RX0 9 "LampRoom$Alarms" "began" "[I", .methodLink RX3 127 yX1_chargeAt, .instanceMethod yX1_chargeAt, .selects RX1 yX1_chargeAt yX1_chargeAt, .initialized RX1, .code yX1_chargeAt cX1_chargeAt 2 (some .double), .fieldLink RX1 25 "LampRoom$Lamps" "charges" "[D"] ++ wsX30 ++ wsX20 ++ wsX00 ++ wsX10)
def wsX3_passHour_r1 : List Cond := [Cond.fieldLink RX3 30 "LampRoom" "clock" "I", Cond.fieldLink RX3 10 "LampRoom" "lamps" "LLampRoom$Lamps;", Cond.fieldLink RX3 19 "LampRoom" "tallies" "LLampRoom$Tallies;", Cond.methodLink RX3 156 yX1_burn, Cond.instanceMethod yX1_burn, Cond.selects RX1 yX1_burn yX1_burn, Cond.initialized RX1, Cond.code yX1_burn cX1_burn 4 none, Cond.fieldLink RX1 32 "LampRoom$Lamps" "count" "I", Cond.fieldLink RX1 15 "LampRoom$Lamps" "places" "[I", Cond.fieldLink RX1 21 "LampRoom$Lamps" "leaks" "[Z", Cond.constantDouble RX1 54 (4609434218613702656), Cond.fieldLink RX1 25 "LampRoom$Lamps" "charges" "[D", Cond.methodLink RX3 159 yX1_load, Cond.instanceMethod yX1_load, Cond.selects RX1 yX1_load yX1_load, Cond.code yX1_load cX1_load 5 none, Cond.fieldLink RX1 29 "LampRoom$Lamps" "capacities" "[D", Cond.constantDouble RX1 56 (4612811918334230528), Cond.methodLink RX3 53 yX2_size, Cond.instanceMethod yX2_size, Cond.selects RX2 yX2_size yX2_size, Cond.initialized RX2, Cond.code yX2_size cX2_size 1 (some .int)]
def wsX3_passHour_r2 : List Cond := [Cond.fieldLink RX2 24 "LampRoom$Tallies" "count" "I", Cond.methodLink RX3 62 yX2_lampHeld, Cond.instanceMethod yX2_lampHeld, Cond.selects RX2 yX2_lampHeld yX2_lampHeld, Cond.code yX2_lampHeld cX2_lampHeld 2 (some .int), Cond.fieldLink RX2 15 "LampRoom$Tallies" "held" "[I", Cond.methodLink RX3 162 yX3_beginAlarms, Cond.instanceMethod yX3_beginAlarms, Cond.selects RX3 yX3_beginAlarms yX3_beginAlarms, Cond.initialized RX3, Cond.code yX3_beginAlarms cX3_beginAlarms 4 (some .int), Cond.fieldLink RX3 26 "LampRoom" "alarms" "LLampRoom$Alarms;", Cond.methodLink RX3 85 yX2_hungAt, Cond.instanceMethod yX2_hungAt, Cond.selects RX2 yX2_hungAt yX2_hungAt, Cond.code yX2_hungAt cX2_hungAt 2 (some .int), Cond.fieldLink RX2 18 "LampRoom$Tallies" "hours" "[I", Cond.methodLink RX3 166 yX0_begin, Cond.instanceMethod yX0_begin, Cond.selects RX0 yX0_begin yX0_begin, Cond.initialized RX0, Cond.code yX0_begin cX0_begin 5 (some .boolean), Cond.fieldLink RX0 9 "LampRoom$Alarms" "began" "[I", Cond.methodLink RX3 127 yX1_chargeAt]
def wsX3_passHour_r3 : List Cond := [Cond.instanceMethod yX1_chargeAt, Cond.selects RX1 yX1_chargeAt yX1_chargeAt, Cond.code yX1_chargeAt cX1_chargeAt 2 (some .double)]
def wsX3_passHour : List Cond := .code yX3_passHour cX3_passHour 4 (some .int) :: ((wsX3_passHour_r1 ++ (wsX3_passHour_r2 ++ wsX3_passHour_r3)) ++ wsX30 ++ wsX10 ++ wsX20 ++ wsX00)
def wsX3_hours_r1 : List Cond := [Cond.classLink RX3 113 "java/lang/IllegalArgumentException", Cond.initialized "java/lang/IllegalArgumentException", Cond.methodLink RX3 118 yX3_passHour, Cond.instanceMethod yX3_passHour, Cond.selects RX3 yX3_passHour yX3_passHour, Cond.initialized RX3, Cond.code yX3_passHour cX3_passHour 4 (some .int), Cond.fieldLink RX3 30 "LampRoom" "clock" "I", Cond.fieldLink RX3 10 "LampRoom" "lamps" "LLampRoom$Lamps;", Cond.fieldLink RX3 19 "LampRoom" "tallies" "LLampRoom$Tallies;", Cond.methodLink RX3 156 yX1_burn, Cond.instanceMethod yX1_burn, Cond.selects RX1 yX1_burn yX1_burn, Cond.initialized RX1, Cond.code yX1_burn cX1_burn 4 none, Cond.fieldLink RX1 32 "LampRoom$Lamps" "count" "I", Cond.fieldLink RX1 15 "LampRoom$Lamps" "places" "[I", Cond.fieldLink RX1 21 "LampRoom$Lamps" "leaks" "[Z", Cond.constantDouble RX1 54 (4609434218613702656), Cond.fieldLink RX1 25 "LampRoom$Lamps" "charges" "[D", Cond.methodLink RX3 159 yX1_load, Cond.instanceMethod yX1_load, Cond.selects RX1 yX1_load yX1_load, Cond.code yX1_load cX1_load 5 none]
def wsX3_hours_r2 : List Cond := [Cond.fieldLink RX1 29 "LampRoom$Lamps" "capacities" "[D", Cond.constantDouble RX1 56 (4612811918334230528), Cond.methodLink RX3 53 yX2_size, Cond.instanceMethod yX2_size, Cond.selects RX2 yX2_size yX2_size, Cond.initialized RX2, Cond.code yX2_size cX2_size 1 (some .int), Cond.fieldLink RX2 24 "LampRoom$Tallies" "count" "I", Cond.methodLink RX3 62 yX2_lampHeld, Cond.instanceMethod yX2_lampHeld, Cond.selects RX2 yX2_lampHeld yX2_lampHeld, Cond.code yX2_lampHeld cX2_lampHeld 2 (some .int), Cond.fieldLink RX2 15 "LampRoom$Tallies" "held" "[I", Cond.methodLink RX3 162 yX3_beginAlarms, Cond.instanceMethod yX3_beginAlarms, Cond.selects RX3 yX3_beginAlarms yX3_beginAlarms, Cond.code yX3_beginAlarms cX3_beginAlarms 4 (some .int), Cond.fieldLink RX3 26 "LampRoom" "alarms" "LLampRoom$Alarms;", Cond.methodLink RX3 85 yX2_hungAt, Cond.instanceMethod yX2_hungAt, Cond.selects RX2 yX2_hungAt yX2_hungAt, Cond.code yX2_hungAt cX2_hungAt 2 (some .int), Cond.fieldLink RX2 18 "LampRoom$Tallies" "hours" "[I", Cond.methodLink RX3 166 yX0_begin]
def wsX3_hours_r3 : List Cond := [Cond.instanceMethod yX0_begin, Cond.selects RX0 yX0_begin yX0_begin, Cond.initialized RX0, Cond.code yX0_begin cX0_begin 5 (some .boolean), Cond.fieldLink RX0 9 "LampRoom$Alarms" "began" "[I", Cond.methodLink RX3 127 yX1_chargeAt, Cond.instanceMethod yX1_chargeAt, Cond.selects RX1 yX1_chargeAt yX1_chargeAt, Cond.code yX1_chargeAt cX1_chargeAt 2 (some .double)]
def wsX3_hours : List Cond := .code yX3_hours cX3_hours 4 (some .int) :: ((wsX3_hours_r1 ++ (wsX3_hours_r2 ++ wsX3_hours_r3)) ++ wsX30 ++ wsX10 ++ wsX20 ++ wsX00 ++ (vx_atS RX3 117 "java/lang/IllegalArgumentException" ["java/lang/RuntimeException", "java/lang/Exception"]).filter goodWord)
def wsX3_below : List Cond := .code yX3_below cX3_below 1 (some .int) :: ([.fieldLink RX3 19 "LampRoom" "tallies" "LLampRoom$Tallies;", .methodLink RX3 121 yX2_onBoard, .instanceMethod yX2_onBoard, .selects RX2 yX2_onBoard yX2_onBoard, .initialized RX2, .code yX2_onBoard cX2_onBoard 3 (some .int), .fieldLink RX2 24 "LampRoom$Tallies" "count" "I", .fieldLink RX2 15 "LampRoom$Tallies" "held" "[I"] ++ wsX30 ++ wsX20)
def wsX3_board : List Cond := .code yX3_board cX3_board 2 (some .int) :: ([.fieldLink RX3 19 "LampRoom" "tallies" "LLampRoom$Tallies;", .methodLink RX3 124 yX2_onBoardAt, .instanceMethod yX2_onBoardAt, .selects RX2 yX2_onBoardAt yX2_onBoardAt, .initialized RX2, .code yX2_onBoardAt cX2_onBoardAt 3 (some .int), .fieldLink RX2 24 "LampRoom$Tallies" "count" "I", .fieldLink RX2 15 "LampRoom$Tallies" "held" "[I", .methodLink RX2 31 yX2_countAhead, .instanceMethod yX2_countAhead, .selects RX2 yX2_countAhead yX2_countAhead, .code yX2_countAhead cX2_countAhead 4 (some .int), .fieldLink RX2 21 "LampRoom$Tallies" "orders" "[I"] ++ wsX30 ++ wsX20)
def wsX3_lampOf : List Cond := .code yX3_lampOf cX3_lampOf 2 (some .int) :: ([.fieldLink RX3 19 "LampRoom" "tallies" "LLampRoom$Tallies;", .methodLink RX3 59 yX3_checkMiner, .instanceMethod yX3_checkMiner, .selects RX3 yX3_checkMiner yX3_checkMiner, .initialized RX3, .code yX3_checkMiner cX3_checkMiner 2 none, .classLink RX3 149 "java/lang/IndexOutOfBoundsException", .initialized "java/lang/IndexOutOfBoundsException", .methodLink RX3 53 yX2_size, .instanceMethod yX2_size, .selects RX2 yX2_size yX2_size, .initialized RX2, .code yX2_size cX2_size 1 (some .int), .fieldLink RX2 24 "LampRoom$Tallies" "count" "I", .methodLink RX3 62 yX2_lampHeld, .instanceMethod yX2_lampHeld, .selects RX2 yX2_lampHeld yX2_lampHeld, .code yX2_lampHeld cX2_lampHeld 2 (some .int), .fieldLink RX2 15 "LampRoom$Tallies" "held" "[I"] ++ wsX30 ++ wsX20 ++ (vx_atS RX3 153 "java/lang/IndexOutOfBoundsException" ["java/lang/RuntimeException", "java/lang/Exception"]).filter goodWord)
def wsX3_hoursBelow_r1 : List Cond := [Cond.fieldLink RX3 19 "LampRoom" "tallies" "LLampRoom$Tallies;", Cond.fieldLink RX3 30 "LampRoom" "clock" "I", Cond.methodLink RX3 59 yX3_checkMiner, Cond.instanceMethod yX3_checkMiner, Cond.selects RX3 yX3_checkMiner yX3_checkMiner, Cond.initialized RX3, Cond.code yX3_checkMiner cX3_checkMiner 2 none, Cond.classLink RX3 149 "java/lang/IndexOutOfBoundsException", Cond.initialized "java/lang/IndexOutOfBoundsException", Cond.methodLink RX3 53 yX2_size, Cond.instanceMethod yX2_size, Cond.selects RX2 yX2_size yX2_size, Cond.initialized RX2, Cond.code yX2_size cX2_size 1 (some .int), Cond.fieldLink RX2 24 "LampRoom$Tallies" "count" "I", Cond.methodLink RX3 62 yX2_lampHeld, Cond.instanceMethod yX2_lampHeld, Cond.selects RX2 yX2_lampHeld yX2_lampHeld, Cond.code yX2_lampHeld cX2_lampHeld 2 (some .int), Cond.fieldLink RX2 15 "LampRoom$Tallies" "held" "[I", Cond.methodLink RX3 85 yX2_hungAt, Cond.instanceMethod yX2_hungAt, Cond.selects RX2 yX2_hungAt yX2_hungAt, Cond.code yX2_hungAt cX2_hungAt 2 (some .int)]
def wsX3_hoursBelow_r2 : List Cond := [Cond.fieldLink RX2 18 "LampRoom$Tallies" "hours" "[I"]
def wsX3_hoursBelow : List Cond := .code yX3_hoursBelow cX3_hoursBelow 2 (some .int) :: ((wsX3_hoursBelow_r1 ++ wsX3_hoursBelow_r2) ++ wsX30 ++ wsX20 ++ (vx_atS RX3 153 "java/lang/IndexOutOfBoundsException" ["java/lang/RuntimeException", "java/lang/Exception"]).filter goodWord)
def wsX3_placeOf : List Cond := .code yX3_placeOf cX3_placeOf 2 (some .int) :: ([.fieldLink RX3 10 "LampRoom" "lamps" "LLampRoom$Lamps;", .methodLink RX3 97 yX3_checkLamp, .instanceMethod yX3_checkLamp, .selects RX3 yX3_checkLamp yX3_checkLamp, .initialized RX3, .code yX3_checkLamp cX3_checkLamp 2 none, .classLink RX3 149 "java/lang/IndexOutOfBoundsException", .initialized "java/lang/IndexOutOfBoundsException", .methodLink RX3 38 yX1_size, .instanceMethod yX1_size, .selects RX1 yX1_size yX1_size, .initialized RX1, .code yX1_size cX1_size 1 (some .int), .fieldLink RX1 32 "LampRoom$Lamps" "count" "I", .methodLink RX3 100 yX1_placeAt, .instanceMethod yX1_placeAt, .selects RX1 yX1_placeAt yX1_placeAt, .code yX1_placeAt cX1_placeAt 2 (some .int), .fieldLink RX1 15 "LampRoom$Lamps" "places" "[I"] ++ wsX30 ++ wsX10 ++ (vx_atS RX3 153 "java/lang/IndexOutOfBoundsException" ["java/lang/RuntimeException", "java/lang/Exception"]).filter goodWord)
def wsX3_chargeOf : List Cond := .code yX3_chargeOf cX3_chargeOf 2 (some .double) :: ([.fieldLink RX3 10 "LampRoom" "lamps" "LLampRoom$Lamps;", .methodLink RX3 97 yX3_checkLamp, .instanceMethod yX3_checkLamp, .selects RX3 yX3_checkLamp yX3_checkLamp, .initialized RX3, .code yX3_checkLamp cX3_checkLamp 2 none, .classLink RX3 149 "java/lang/IndexOutOfBoundsException", .initialized "java/lang/IndexOutOfBoundsException", .methodLink RX3 38 yX1_size, .instanceMethod yX1_size, .selects RX1 yX1_size yX1_size, .initialized RX1, .code yX1_size cX1_size 1 (some .int), .fieldLink RX1 32 "LampRoom$Lamps" "count" "I", .methodLink RX3 127 yX1_chargeAt, .instanceMethod yX1_chargeAt, .selects RX1 yX1_chargeAt yX1_chargeAt, .code yX1_chargeAt cX1_chargeAt 2 (some .double), .fieldLink RX1 25 "LampRoom$Lamps" "charges" "[D"] ++ wsX30 ++ wsX10 ++ (vx_atS RX3 153 "java/lang/IndexOutOfBoundsException" ["java/lang/RuntimeException", "java/lang/Exception"]).filter goodWord)
def wsX3_capacityOf : List Cond := .code yX3_capacityOf cX3_capacityOf 2 (some .double) :: ([.fieldLink RX3 10 "LampRoom" "lamps" "LLampRoom$Lamps;", .methodLink RX3 97 yX3_checkLamp, .instanceMethod yX3_checkLamp, .selects RX3 yX3_checkLamp yX3_checkLamp, .initialized RX3, .code yX3_checkLamp cX3_checkLamp 2 none, .classLink RX3 149 "java/lang/IndexOutOfBoundsException", .initialized "java/lang/IndexOutOfBoundsException", .methodLink RX3 38 yX1_size, .instanceMethod yX1_size, .selects RX1 yX1_size yX1_size, .initialized RX1, .code yX1_size cX1_size 1 (some .int), .fieldLink RX1 32 "LampRoom$Lamps" "count" "I", .methodLink RX3 131 yX1_capacityAt, .instanceMethod yX1_capacityAt, .selects RX1 yX1_capacityAt yX1_capacityAt, .code yX1_capacityAt cX1_capacityAt 2 (some .double), .fieldLink RX1 29 "LampRoom$Lamps" "capacities" "[D"] ++ wsX30 ++ wsX10 ++ (vx_atS RX3 153 "java/lang/IndexOutOfBoundsException" ["java/lang/RuntimeException", "java/lang/Exception"]).filter goodWord)
def wsX3_turnsOf : List Cond := .code yX3_turnsOf cX3_turnsOf 2 (some .int) :: ([.fieldLink RX3 10 "LampRoom" "lamps" "LLampRoom$Lamps;", .methodLink RX3 97 yX3_checkLamp, .instanceMethod yX3_checkLamp, .selects RX3 yX3_checkLamp yX3_checkLamp, .initialized RX3, .code yX3_checkLamp cX3_checkLamp 2 none, .classLink RX3 149 "java/lang/IndexOutOfBoundsException", .initialized "java/lang/IndexOutOfBoundsException", .methodLink RX3 38 yX1_size, .instanceMethod yX1_size, .selects RX1 yX1_size yX1_size, .initialized RX1, .code yX1_size cX1_size 1 (some .int), .fieldLink RX1 32 "LampRoom$Lamps" "count" "I", .methodLink RX3 134 yX1_turnsAt, .instanceMethod yX1_turnsAt, .selects RX1 yX1_turnsAt yX1_turnsAt, .code yX1_turnsAt cX1_turnsAt 2 (some .int), .fieldLink RX1 18 "LampRoom$Lamps" "turns" "[I"] ++ wsX30 ++ wsX10 ++ (vx_atS RX3 153 "java/lang/IndexOutOfBoundsException" ["java/lang/RuntimeException", "java/lang/Exception"]).filter goodWord)
def wsX3_ready : List Cond := .code yX3_ready cX3_ready 2 (some .int) :: ([.fieldLink RX3 10 "LampRoom" "lamps" "LLampRoom$Lamps;", .methodLink RX3 34 yX3_checkKind, .static yX3_checkKind, .initialized RX3, .code yX3_checkKind cX3_checkKind 1 none, .classLink RX3 113 "java/lang/IllegalArgumentException", .initialized "java/lang/IllegalArgumentException", .methodLink RX3 137 yX1_countIssuable, .instanceMethod yX1_countIssuable, .selects RX1 yX1_countIssuable yX1_countIssuable, .initialized RX1, .code yX1_countIssuable cX1_countIssuable 4 (some .int), .fieldLink RX1 32 "LampRoom$Lamps" "count" "I", .methodLink RX1 48 yX1_isIssuable, .instanceMethod yX1_isIssuable, .selects RX1 yX1_isIssuable yX1_isIssuable, .code yX1_isIssuable cX1_isIssuable 3 (some .boolean), .fieldLink RX1 9 "LampRoom$Lamps" "kinds" "[I", .fieldLink RX1 15 "LampRoom$Lamps" "places" "[I", .fieldLink RX1 25 "LampRoom$Lamps" "charges" "[D", .constantDouble RX1 52 (4621256167635550208)] ++ wsX30 ++ wsX10 ++ (vx_atS RX3 117 "java/lang/IllegalArgumentException" ["java/lang/RuntimeException", "java/lang/Exception"]).filter goodWord)
def wsX3_spares : List Cond := .code yX3_spares cX3_spares 4 (some .int) :: ([.fieldLink RX3 19 "LampRoom" "tallies" "LLampRoom$Tallies;", .fieldLink RX3 10 "LampRoom" "lamps" "LLampRoom$Lamps;", .methodLink RX3 53 yX2_size, .instanceMethod yX2_size, .selects RX2 yX2_size yX2_size, .initialized RX2, .code yX2_size cX2_size 1 (some .int), .fieldLink RX2 24 "LampRoom$Tallies" "count" "I", .methodLink RX3 62 yX2_lampHeld, .instanceMethod yX2_lampHeld, .selects RX2 yX2_lampHeld yX2_lampHeld, .code yX2_lampHeld cX2_lampHeld 2 (some .int), .fieldLink RX2 15 "LampRoom$Tallies" "held" "[I", .methodLink RX3 140 yX1_kindAt, .instanceMethod yX1_kindAt, .selects RX1 yX1_kindAt yX1_kindAt, .initialized RX1, .code yX1_kindAt cX1_kindAt 2 (some .int), .fieldLink RX1 9 "LampRoom$Lamps" "kinds" "[I", .methodLink RX3 67 yX2_kindAt, .instanceMethod yX2_kindAt, .selects RX2 yX2_kindAt yX2_kindAt, .code yX2_kindAt cX2_kindAt 2 (some .int), .fieldLink RX2 9 "LampRoom$Tallies" "kinds" "[I"] ++ wsX30 ++ wsX20 ++ wsX10)
def wsX3_alarm : List Cond := .code yX3_alarm cX3_alarm 2 (some .int) :: ([.fieldLink RX3 26 "LampRoom" "alarms" "LLampRoom$Alarms;", .methodLink RX3 141 yX0_lastingAt, .instanceMethod yX0_lastingAt, .selects RX0 yX0_lastingAt yX0_lastingAt, .initialized RX0, .code yX0_lastingAt cX0_lastingAt 3 (some .int), .fieldLink RX0 9 "LampRoom$Alarms" "began" "[I", .methodLink RX0 15 yX0_countAhead, .instanceMethod yX0_countAhead, .selects RX0 yX0_countAhead yX0_countAhead, .code yX0_countAhead cX0_countAhead 4 (some .int), .methodLink RX0 19 yX0_isAhead, .instanceMethod yX0_isAhead, .selects RX0 yX0_isAhead yX0_isAhead, .code yX0_isAhead cX0_isAhead 3 (some .boolean)] ++ wsX30 ++ wsX00)
def wsX3_lightLeft_r1 : List Cond := [Cond.fieldLink RX3 19 "LampRoom" "tallies" "LLampRoom$Tallies;", Cond.fieldLink RX3 10 "LampRoom" "lamps" "LLampRoom$Lamps;", Cond.methodLink RX3 59 yX3_checkMiner, Cond.instanceMethod yX3_checkMiner, Cond.selects RX3 yX3_checkMiner yX3_checkMiner, Cond.initialized RX3, Cond.code yX3_checkMiner cX3_checkMiner 2 none, Cond.classLink RX3 149 "java/lang/IndexOutOfBoundsException", Cond.initialized "java/lang/IndexOutOfBoundsException", Cond.methodLink RX3 53 yX2_size, Cond.instanceMethod yX2_size, Cond.selects RX2 yX2_size yX2_size, Cond.initialized RX2, Cond.code yX2_size cX2_size 1 (some .int), Cond.fieldLink RX2 24 "LampRoom$Tallies" "count" "I", Cond.methodLink RX3 62 yX2_lampHeld, Cond.instanceMethod yX2_lampHeld, Cond.selects RX2 yX2_lampHeld yX2_lampHeld, Cond.code yX2_lampHeld cX2_lampHeld 2 (some .int), Cond.fieldLink RX2 15 "LampRoom$Tallies" "held" "[I", Cond.methodLink RX3 127 yX1_chargeAt, Cond.instanceMethod yX1_chargeAt, Cond.selects RX1 yX1_chargeAt yX1_chargeAt, Cond.initialized RX1]
def wsX3_lightLeft_r2 : List Cond := [Cond.code yX1_chargeAt cX1_chargeAt 2 (some .double), Cond.fieldLink RX1 25 "LampRoom$Lamps" "charges" "[D"]
def wsX3_lightLeft : List Cond := .code yX3_lightLeft cX3_lightLeft 3 (some .int) :: ((wsX3_lightLeft_r1 ++ wsX3_lightLeft_r2) ++ wsX30 ++ wsX20 ++ wsX10 ++ (vx_atS RX3 153 "java/lang/IndexOutOfBoundsException" ["java/lang/RuntimeException", "java/lang/Exception"]).filter goodWord)
def wsX3_rackCharge : List Cond := .code yX3_rackCharge cX3_rackCharge 1 (some .int) :: ([.fieldLink RX3 10 "LampRoom" "lamps" "LLampRoom$Lamps;", .methodLink RX3 144 yX1_hundredthsOnRack, .instanceMethod yX1_hundredthsOnRack, .selects RX1 yX1_hundredthsOnRack yX1_hundredthsOnRack, .initialized RX1, .code yX1_hundredthsOnRack cX1_hundredthsOnRack 6 (some .int), .fieldLink RX1 32 "LampRoom$Lamps" "count" "I", .fieldLink RX1 15 "LampRoom$Lamps" "places" "[I", .fieldLink RX1 25 "LampRoom$Lamps" "charges" "[D", .fieldLink RX1 29 "LampRoom$Lamps" "capacities" "[D", .constantDouble RX1 58 (4636737291354636288)] ++ wsX30 ++ wsX10)
def wsL_cell : List Cond := .code yL_cell cL_cell 2 (some .int) :: ([.constant RL 7 (727457335)])
def wsL_low : List Cond := .code yL_low cL_low 2 (some .int) :: ([])
def wsL_addLamp_r1 : List Cond := [Cond.classLink RL 14 "java/lang/IllegalArgumentException", Cond.classLink RL 16 "java/lang/IllegalStateException", Cond.methodLink RL 8 yX3_addLamp, Cond.instanceMethod yX3_addLamp, Cond.selects RX3 yX3_addLamp yX3_addLamp, Cond.initialized RX3, Cond.code yX3_addLamp cX3_addLamp 2 (some .int), Cond.classLink RX3 42 "java/lang/IllegalStateException", Cond.initialized "java/lang/IllegalStateException", Cond.fieldLink RX3 10 "LampRoom" "lamps" "LLampRoom$Lamps;", Cond.methodLink RX3 34 yX3_checkKind, Cond.static yX3_checkKind, Cond.code yX3_checkKind cX3_checkKind 1 none, Cond.classLink RX3 113 "java/lang/IllegalArgumentException", Cond.initialized "java/lang/IllegalArgumentException", Cond.methodLink RX3 38 yX1_size, Cond.instanceMethod yX1_size, Cond.selects RX1 yX1_size yX1_size, Cond.initialized RX1, Cond.code yX1_size cX1_size 1 (some .int), Cond.fieldLink RX1 32 "LampRoom$Lamps" "count" "I", Cond.methodLink RX3 49 yX1_hangNew, Cond.instanceMethod yX1_hangNew, Cond.selects RX1 yX1_hangNew yX1_hangNew]
def wsL_addLamp_r2 : List Cond := [Cond.code yX1_hangNew cX1_hangNew 3 (some .int), Cond.fieldLink RX1 9 "LampRoom$Lamps" "kinds" "[I", Cond.fieldLink RX1 15 "LampRoom$Lamps" "places" "[I", Cond.fieldLink RX1 29 "LampRoom$Lamps" "capacities" "[D", Cond.fieldLink RX1 25 "LampRoom$Lamps" "charges" "[D", Cond.methodLink RX1 36 yX1_newCapacity, Cond.static yX1_newCapacity, Cond.code yX1_newCapacity cX1_newCapacity 1 (some .double), Cond.constantDouble RX1 60 (4622945017495814144), Cond.constantDouble RX1 62 (4625196817309499392), Cond.constantDouble RX1 64 (4626322717216342016)]
def wsL_addLamp : List Cond := .codeWith yL_addLamp cL_addLamp 4 (some .int) [(0, 6, 9, 14), (0, 6, 13, 16)] :: ((wsL_addLamp_r1 ++ wsL_addLamp_r2) ++ wsX30 ++ wsX10 ++ (vx_atS RX3 46 "java/lang/IllegalStateException" ["java/lang/RuntimeException", "java/lang/Exception"]).filter goodWord ++ (vx_atS RX3 117 "java/lang/IllegalArgumentException" ["java/lang/RuntimeException", "java/lang/Exception"]).filter goodWord)
def wsL_addMiner_r1 : List Cond := [Cond.classLink RL 14 "java/lang/IllegalArgumentException", Cond.classLink RL 16 "java/lang/IllegalStateException", Cond.methodLink RL 18 yX3_addMiner, Cond.instanceMethod yX3_addMiner, Cond.selects RX3 yX3_addMiner yX3_addMiner, Cond.initialized RX3, Cond.code yX3_addMiner cX3_addMiner 2 (some .int), Cond.classLink RX3 42 "java/lang/IllegalStateException", Cond.initialized "java/lang/IllegalStateException", Cond.fieldLink RX3 19 "LampRoom" "tallies" "LLampRoom$Tallies;", Cond.methodLink RX3 34 yX3_checkKind, Cond.static yX3_checkKind, Cond.code yX3_checkKind cX3_checkKind 1 none, Cond.classLink RX3 113 "java/lang/IllegalArgumentException", Cond.initialized "java/lang/IllegalArgumentException", Cond.methodLink RX3 53 yX2_size, Cond.instanceMethod yX2_size, Cond.selects RX2 yX2_size yX2_size, Cond.initialized RX2, Cond.code yX2_size cX2_size 1 (some .int), Cond.fieldLink RX2 24 "LampRoom$Tallies" "count" "I", Cond.methodLink RX3 56 yX2_enter, Cond.instanceMethod yX2_enter, Cond.selects RX2 yX2_enter yX2_enter]
def wsL_addMiner_r2 : List Cond := [Cond.code yX2_enter cX2_enter 3 (some .int), Cond.fieldLink RX2 9 "LampRoom$Tallies" "kinds" "[I", Cond.fieldLink RX2 15 "LampRoom$Tallies" "held" "[I"]
def wsL_addMiner : List Cond := .codeWith yL_addMiner cL_addMiner 4 (some .int) [(0, 6, 9, 14), (0, 6, 13, 16)] :: ((wsL_addMiner_r1 ++ wsL_addMiner_r2) ++ wsX30 ++ wsX20 ++ (vx_atS RX3 46 "java/lang/IllegalStateException" ["java/lang/RuntimeException", "java/lang/Exception"]).filter goodWord ++ (vx_atS RX3 117 "java/lang/IllegalArgumentException" ["java/lang/RuntimeException", "java/lang/Exception"]).filter goodWord)
def wsL_issue_r1 : List Cond := [Cond.classLink RL 24 "java/lang/IndexOutOfBoundsException", Cond.classLink RL 16 "java/lang/IllegalStateException", Cond.methodLink RL 21 yX3_issue, Cond.instanceMethod yX3_issue, Cond.selects RX3 yX3_issue yX3_issue, Cond.initialized RX3, Cond.code yX3_issue cX3_issue 3 (some .int), Cond.classLink RX3 42 "java/lang/IllegalStateException", Cond.initialized "java/lang/IllegalStateException", Cond.fieldLink RX3 19 "LampRoom" "tallies" "LLampRoom$Tallies;", Cond.fieldLink RX3 10 "LampRoom" "lamps" "LLampRoom$Lamps;", Cond.fieldLink RX3 30 "LampRoom" "clock" "I", Cond.methodLink RX3 59 yX3_checkMiner, Cond.instanceMethod yX3_checkMiner, Cond.selects RX3 yX3_checkMiner yX3_checkMiner, Cond.code yX3_checkMiner cX3_checkMiner 2 none, Cond.classLink RX3 149 "java/lang/IndexOutOfBoundsException", Cond.initialized "java/lang/IndexOutOfBoundsException", Cond.methodLink RX3 53 yX2_size, Cond.instanceMethod yX2_size, Cond.selects RX2 yX2_size yX2_size, Cond.initialized RX2, Cond.code yX2_size cX2_size 1 (some .int), Cond.fieldLink RX2 24 "LampRoom$Tallies" "count" "I"]
def wsL_issue_r2 : List Cond := [Cond.methodLink RX3 62 yX2_lampHeld, Cond.instanceMethod yX2_lampHeld, Cond.selects RX2 yX2_lampHeld yX2_lampHeld, Cond.code yX2_lampHeld cX2_lampHeld 2 (some .int), Cond.fieldLink RX2 15 "LampRoom$Tallies" "held" "[I", Cond.methodLink RX3 67 yX2_kindAt, Cond.instanceMethod yX2_kindAt, Cond.selects RX2 yX2_kindAt yX2_kindAt, Cond.code yX2_kindAt cX2_kindAt 2 (some .int), Cond.fieldLink RX2 9 "LampRoom$Tallies" "kinds" "[I", Cond.methodLink RX3 70 yX1_bestFor, Cond.instanceMethod yX1_bestFor, Cond.selects RX1 yX1_bestFor yX1_bestFor, Cond.initialized RX1, Cond.code yX1_bestFor cX1_bestFor 4 (some .int), Cond.methodLink RX1 44 yX1_fullestOf, Cond.instanceMethod yX1_fullestOf, Cond.selects RX1 yX1_fullestOf yX1_fullestOf, Cond.code yX1_fullestOf cX1_fullestOf 4 (some .int), Cond.fieldLink RX1 32 "LampRoom$Lamps" "count" "I", Cond.fieldLink RX1 25 "LampRoom$Lamps" "charges" "[D", Cond.methodLink RX1 48 yX1_isIssuable, Cond.instanceMethod yX1_isIssuable, Cond.selects RX1 yX1_isIssuable yX1_isIssuable]
def wsL_issue_r3 : List Cond := [Cond.code yX1_isIssuable cX1_isIssuable 3 (some .boolean), Cond.fieldLink RX1 9 "LampRoom$Lamps" "kinds" "[I", Cond.fieldLink RX1 15 "LampRoom$Lamps" "places" "[I", Cond.constantDouble RX1 52 (4621256167635550208), Cond.methodLink RX3 75 yX1_moveTo, Cond.instanceMethod yX1_moveTo, Cond.selects RX1 yX1_moveTo yX1_moveTo, Cond.code yX1_moveTo cX1_moveTo 3 none, Cond.methodLink RX3 79 yX2_hangUp, Cond.instanceMethod yX2_hangUp, Cond.selects RX2 yX2_hangUp yX2_hangUp, Cond.code yX2_hangUp cX2_hangUp 4 none, Cond.fieldLink RX2 18 "LampRoom$Tallies" "hours" "[I", Cond.fieldLink RX2 21 "LampRoom$Tallies" "orders" "[I", Cond.fieldLink RX2 28 "LampRoom$Tallies" "issued" "I"]
def wsL_issue : List Cond := .codeWith yL_issue cL_issue 4 (some .int) [(0, 6, 9, 24), (0, 6, 13, 16)] :: ((wsL_issue_r1 ++ (wsL_issue_r2 ++ wsL_issue_r3)) ++ wsX30 ++ wsX20 ++ wsX10 ++ (vx_atS RX3 46 "java/lang/IllegalStateException" ["java/lang/RuntimeException", "java/lang/Exception"]).filter goodWord ++ (vx_atS RX3 153 "java/lang/IndexOutOfBoundsException" ["java/lang/RuntimeException", "java/lang/Exception"]).filter goodWord)
def wsL_back_r1 : List Cond := [Cond.classLink RL 24 "java/lang/IndexOutOfBoundsException", Cond.classLink RL 16 "java/lang/IllegalStateException", Cond.methodLink RL 26 yX3_back, Cond.instanceMethod yX3_back, Cond.selects RX3 yX3_back yX3_back, Cond.initialized RX3, Cond.code yX3_back cX3_back 4 (some .int), Cond.classLink RX3 42 "java/lang/IllegalStateException", Cond.initialized "java/lang/IllegalStateException", Cond.fieldLink RX3 19 "LampRoom" "tallies" "LLampRoom$Tallies;", Cond.fieldLink RX3 30 "LampRoom" "clock" "I", Cond.fieldLink RX3 10 "LampRoom" "lamps" "LLampRoom$Lamps;", Cond.fieldLink RX3 26 "LampRoom" "alarms" "LLampRoom$Alarms;", Cond.methodLink RX3 59 yX3_checkMiner, Cond.instanceMethod yX3_checkMiner, Cond.selects RX3 yX3_checkMiner yX3_checkMiner, Cond.code yX3_checkMiner cX3_checkMiner 2 none, Cond.classLink RX3 149 "java/lang/IndexOutOfBoundsException", Cond.initialized "java/lang/IndexOutOfBoundsException", Cond.methodLink RX3 53 yX2_size, Cond.instanceMethod yX2_size, Cond.selects RX2 yX2_size yX2_size, Cond.initialized RX2, Cond.code yX2_size cX2_size 1 (some .int)]
def wsL_back_r2 : List Cond := [Cond.fieldLink RX2 24 "LampRoom$Tallies" "count" "I", Cond.methodLink RX3 62 yX2_lampHeld, Cond.instanceMethod yX2_lampHeld, Cond.selects RX2 yX2_lampHeld yX2_lampHeld, Cond.code yX2_lampHeld cX2_lampHeld 2 (some .int), Cond.fieldLink RX2 15 "LampRoom$Tallies" "held" "[I", Cond.methodLink RX3 85 yX2_hungAt, Cond.instanceMethod yX2_hungAt, Cond.selects RX2 yX2_hungAt yX2_hungAt, Cond.code yX2_hungAt cX2_hungAt 2 (some .int), Cond.fieldLink RX2 18 "LampRoom$Tallies" "hours" "[I", Cond.methodLink RX3 88 yX1_takeBack, Cond.instanceMethod yX1_takeBack, Cond.selects RX1 yX1_takeBack yX1_takeBack, Cond.initialized RX1, Cond.code yX1_takeBack cX1_takeBack 2 none, Cond.fieldLink RX1 15 "LampRoom$Lamps" "places" "[I", Cond.fieldLink RX1 18 "LampRoom$Lamps" "turns" "[I", Cond.fieldLink RX1 21 "LampRoom$Lamps" "leaks" "[Z", Cond.fieldLink RX1 29 "LampRoom$Lamps" "capacities" "[D", Cond.constantDouble RX1 40 (4606912202822375178), Cond.fieldLink RX1 25 "LampRoom$Lamps" "charges" "[D", Cond.methodLink RX3 91 yX2_takeDown, Cond.instanceMethod yX2_takeDown]
def wsL_back_r3 : List Cond := [Cond.selects RX2 yX2_takeDown yX2_takeDown, Cond.code yX2_takeDown cX2_takeDown 2 none, Cond.methodLink RX3 94 yX0_end, Cond.instanceMethod yX0_end, Cond.selects RX0 yX0_end yX0_end, Cond.initialized RX0, Cond.code yX0_end cX0_end 2 none, Cond.fieldLink RX0 9 "LampRoom$Alarms" "began" "[I"]
def wsL_back : List Cond := .codeWith yL_back cL_back 4 (some .int) [(0, 6, 9, 24), (0, 6, 13, 16)] :: ((wsL_back_r1 ++ (wsL_back_r2 ++ wsL_back_r3)) ++ wsX30 ++ wsX20 ++ wsX10 ++ wsX00 ++ (vx_atS RX3 46 "java/lang/IllegalStateException" ["java/lang/RuntimeException", "java/lang/Exception"]).filter goodWord ++ (vx_atS RX3 153 "java/lang/IndexOutOfBoundsException" ["java/lang/RuntimeException", "java/lang/Exception"]).filter goodWord)
def wsL_test_r1 : List Cond := [Cond.classLink RL 24 "java/lang/IndexOutOfBoundsException", Cond.classLink RL 16 "java/lang/IllegalStateException", Cond.methodLink RL 29 yX3_test, Cond.instanceMethod yX3_test, Cond.selects RX3 yX3_test yX3_test, Cond.initialized RX3, Cond.code yX3_test cX3_test 3 (some .int), Cond.classLink RX3 42 "java/lang/IllegalStateException", Cond.initialized "java/lang/IllegalStateException", Cond.fieldLink RX3 10 "LampRoom" "lamps" "LLampRoom$Lamps;", Cond.methodLink RX3 97 yX3_checkLamp, Cond.instanceMethod yX3_checkLamp, Cond.selects RX3 yX3_checkLamp yX3_checkLamp, Cond.code yX3_checkLamp cX3_checkLamp 2 none, Cond.classLink RX3 149 "java/lang/IndexOutOfBoundsException", Cond.initialized "java/lang/IndexOutOfBoundsException", Cond.methodLink RX3 38 yX1_size, Cond.instanceMethod yX1_size, Cond.selects RX1 yX1_size yX1_size, Cond.initialized RX1, Cond.code yX1_size cX1_size 1 (some .int), Cond.fieldLink RX1 32 "LampRoom$Lamps" "count" "I", Cond.methodLink RX3 100 yX1_placeAt, Cond.instanceMethod yX1_placeAt]
def wsL_test_r2 : List Cond := [Cond.selects RX1 yX1_placeAt yX1_placeAt, Cond.code yX1_placeAt cX1_placeAt 2 (some .int), Cond.fieldLink RX1 15 "LampRoom$Lamps" "places" "[I", Cond.methodLink RX3 105 yX1_faultAt, Cond.instanceMethod yX1_faultAt, Cond.selects RX1 yX1_faultAt yX1_faultAt, Cond.code yX1_faultAt cX1_faultAt 2 (some .int), Cond.fieldLink RX1 21 "LampRoom$Lamps" "leaks" "[Z", Cond.fieldLink RX1 29 "LampRoom$Lamps" "capacities" "[D", Cond.constantDouble RX1 42 (4604930618986332160), Cond.fieldLink RX1 9 "LampRoom$Lamps" "kinds" "[I", Cond.methodLink RX1 36 yX1_newCapacity, Cond.static yX1_newCapacity, Cond.code yX1_newCapacity cX1_newCapacity 1 (some .double), Cond.constantDouble RX1 60 (4622945017495814144), Cond.constantDouble RX1 62 (4625196817309499392), Cond.constantDouble RX1 64 (4626322717216342016), Cond.methodLink RX3 75 yX1_moveTo, Cond.instanceMethod yX1_moveTo, Cond.selects RX1 yX1_moveTo yX1_moveTo, Cond.code yX1_moveTo cX1_moveTo 3 none]
def wsL_test : List Cond := .codeWith yL_test cL_test 4 (some .int) [(0, 6, 9, 24), (0, 6, 13, 16)] :: ((wsL_test_r1 ++ wsL_test_r2) ++ wsX30 ++ wsX10 ++ (vx_atS RX3 46 "java/lang/IllegalStateException" ["java/lang/RuntimeException", "java/lang/Exception"]).filter goodWord ++ (vx_atS RX3 153 "java/lang/IndexOutOfBoundsException" ["java/lang/RuntimeException", "java/lang/Exception"]).filter goodWord)
def wsL_mend_r1 : List Cond := [Cond.classLink RL 24 "java/lang/IndexOutOfBoundsException", Cond.classLink RL 16 "java/lang/IllegalStateException", Cond.methodLink RL 32 yX3_mend, Cond.instanceMethod yX3_mend, Cond.selects RX3 yX3_mend yX3_mend, Cond.initialized RX3, Cond.code yX3_mend cX3_mend 3 (some .boolean), Cond.classLink RX3 42 "java/lang/IllegalStateException", Cond.initialized "java/lang/IllegalStateException", Cond.fieldLink RX3 10 "LampRoom" "lamps" "LLampRoom$Lamps;", Cond.methodLink RX3 97 yX3_checkLamp, Cond.instanceMethod yX3_checkLamp, Cond.selects RX3 yX3_checkLamp yX3_checkLamp, Cond.code yX3_checkLamp cX3_checkLamp 2 none, Cond.classLink RX3 149 "java/lang/IndexOutOfBoundsException", Cond.initialized "java/lang/IndexOutOfBoundsException", Cond.methodLink RX3 38 yX1_size, Cond.instanceMethod yX1_size, Cond.selects RX1 yX1_size yX1_size, Cond.initialized RX1, Cond.code yX1_size cX1_size 1 (some .int), Cond.fieldLink RX1 32 "LampRoom$Lamps" "count" "I", Cond.methodLink RX3 100 yX1_placeAt, Cond.instanceMethod yX1_placeAt]
def wsL_mend_r2 : List Cond := [Cond.selects RX1 yX1_placeAt yX1_placeAt, Cond.code yX1_placeAt cX1_placeAt 2 (some .int), Cond.fieldLink RX1 15 "LampRoom$Lamps" "places" "[I", Cond.methodLink RX3 110 yX1_endLeak, Cond.instanceMethod yX1_endLeak, Cond.selects RX1 yX1_endLeak yX1_endLeak, Cond.code yX1_endLeak cX1_endLeak 2 none, Cond.fieldLink RX1 21 "LampRoom$Lamps" "leaks" "[Z", Cond.methodLink RX3 105 yX1_faultAt, Cond.instanceMethod yX1_faultAt, Cond.selects RX1 yX1_faultAt yX1_faultAt, Cond.code yX1_faultAt cX1_faultAt 2 (some .int), Cond.fieldLink RX1 29 "LampRoom$Lamps" "capacities" "[D", Cond.constantDouble RX1 42 (4604930618986332160), Cond.fieldLink RX1 9 "LampRoom$Lamps" "kinds" "[I", Cond.methodLink RX1 36 yX1_newCapacity, Cond.static yX1_newCapacity, Cond.code yX1_newCapacity cX1_newCapacity 1 (some .double), Cond.constantDouble RX1 60 (4622945017495814144), Cond.constantDouble RX1 62 (4625196817309499392), Cond.constantDouble RX1 64 (4626322717216342016), Cond.methodLink RX3 75 yX1_moveTo, Cond.instanceMethod yX1_moveTo, Cond.selects RX1 yX1_moveTo yX1_moveTo]
def wsL_mend_r3 : List Cond := [Cond.code yX1_moveTo cX1_moveTo 3 none]
def wsL_mend : List Cond := .codeWith yL_mend cL_mend 4 (some .int) [(0, 6, 9, 24), (0, 6, 13, 16)] :: ((wsL_mend_r1 ++ (wsL_mend_r2 ++ wsL_mend_r3)) ++ wsX30 ++ wsX10 ++ (vx_atS RX3 46 "java/lang/IllegalStateException" ["java/lang/RuntimeException", "java/lang/Exception"]).filter goodWord ++ (vx_atS RX3 153 "java/lang/IndexOutOfBoundsException" ["java/lang/RuntimeException", "java/lang/Exception"]).filter goodWord)
def wsL_hours_r1 : List Cond := [Cond.classLink RL 14 "java/lang/IllegalArgumentException", Cond.methodLink RL 36 yX3_hours, Cond.instanceMethod yX3_hours, Cond.selects RX3 yX3_hours yX3_hours, Cond.initialized RX3, Cond.code yX3_hours cX3_hours 4 (some .int), Cond.classLink RX3 113 "java/lang/IllegalArgumentException", Cond.initialized "java/lang/IllegalArgumentException", Cond.methodLink RX3 118 yX3_passHour, Cond.instanceMethod yX3_passHour, Cond.selects RX3 yX3_passHour yX3_passHour, Cond.code yX3_passHour cX3_passHour 4 (some .int), Cond.fieldLink RX3 30 "LampRoom" "clock" "I", Cond.fieldLink RX3 10 "LampRoom" "lamps" "LLampRoom$Lamps;", Cond.fieldLink RX3 19 "LampRoom" "tallies" "LLampRoom$Tallies;", Cond.methodLink RX3 156 yX1_burn, Cond.instanceMethod yX1_burn, Cond.selects RX1 yX1_burn yX1_burn, Cond.initialized RX1, Cond.code yX1_burn cX1_burn 4 none, Cond.fieldLink RX1 32 "LampRoom$Lamps" "count" "I", Cond.fieldLink RX1 15 "LampRoom$Lamps" "places" "[I", Cond.fieldLink RX1 21 "LampRoom$Lamps" "leaks" "[Z", Cond.constantDouble RX1 54 (4609434218613702656)]
def wsL_hours_r2 : List Cond := [Cond.fieldLink RX1 25 "LampRoom$Lamps" "charges" "[D", Cond.methodLink RX3 159 yX1_load, Cond.instanceMethod yX1_load, Cond.selects RX1 yX1_load yX1_load, Cond.code yX1_load cX1_load 5 none, Cond.fieldLink RX1 29 "LampRoom$Lamps" "capacities" "[D", Cond.constantDouble RX1 56 (4612811918334230528), Cond.methodLink RX3 53 yX2_size, Cond.instanceMethod yX2_size, Cond.selects RX2 yX2_size yX2_size, Cond.initialized RX2, Cond.code yX2_size cX2_size 1 (some .int), Cond.fieldLink RX2 24 "LampRoom$Tallies" "count" "I", Cond.methodLink RX3 62 yX2_lampHeld, Cond.instanceMethod yX2_lampHeld, Cond.selects RX2 yX2_lampHeld yX2_lampHeld, Cond.code yX2_lampHeld cX2_lampHeld 2 (some .int), Cond.fieldLink RX2 15 "LampRoom$Tallies" "held" "[I", Cond.methodLink RX3 162 yX3_beginAlarms, Cond.instanceMethod yX3_beginAlarms, Cond.selects RX3 yX3_beginAlarms yX3_beginAlarms, Cond.code yX3_beginAlarms cX3_beginAlarms 4 (some .int), Cond.fieldLink RX3 26 "LampRoom" "alarms" "LLampRoom$Alarms;", Cond.methodLink RX3 85 yX2_hungAt]
def wsL_hours_r3 : List Cond := [Cond.instanceMethod yX2_hungAt, Cond.selects RX2 yX2_hungAt yX2_hungAt, Cond.code yX2_hungAt cX2_hungAt 2 (some .int), Cond.fieldLink RX2 18 "LampRoom$Tallies" "hours" "[I", Cond.methodLink RX3 166 yX0_begin, Cond.instanceMethod yX0_begin, Cond.selects RX0 yX0_begin yX0_begin, Cond.initialized RX0, Cond.code yX0_begin cX0_begin 5 (some .boolean), Cond.fieldLink RX0 9 "LampRoom$Alarms" "began" "[I", Cond.methodLink RX3 127 yX1_chargeAt, Cond.instanceMethod yX1_chargeAt, Cond.selects RX1 yX1_chargeAt yX1_chargeAt, Cond.code yX1_chargeAt cX1_chargeAt 2 (some .double)]
def wsL_hours : List Cond := .codeWith yL_hours cL_hours 4 (some .int) [(0, 6, 9, 14)] :: ((wsL_hours_r1 ++ (wsL_hours_r2 ++ wsL_hours_r3)) ++ wsX30 ++ wsX10 ++ wsX20 ++ wsX00 ++ (vx_atS RX3 117 "java/lang/IllegalArgumentException" ["java/lang/RuntimeException", "java/lang/Exception"]).filter goodWord)
def wsL_ready_r1 : List Cond := [Cond.classLink RL 14 "java/lang/IllegalArgumentException", Cond.methodLink RL 39 yX3_ready, Cond.instanceMethod yX3_ready, Cond.selects RX3 yX3_ready yX3_ready, Cond.initialized RX3, Cond.code yX3_ready cX3_ready 2 (some .int), Cond.fieldLink RX3 10 "LampRoom" "lamps" "LLampRoom$Lamps;", Cond.methodLink RX3 34 yX3_checkKind, Cond.static yX3_checkKind, Cond.code yX3_checkKind cX3_checkKind 1 none, Cond.classLink RX3 113 "java/lang/IllegalArgumentException", Cond.initialized "java/lang/IllegalArgumentException", Cond.methodLink RX3 137 yX1_countIssuable, Cond.instanceMethod yX1_countIssuable, Cond.selects RX1 yX1_countIssuable yX1_countIssuable, Cond.initialized RX1, Cond.code yX1_countIssuable cX1_countIssuable 4 (some .int), Cond.fieldLink RX1 32 "LampRoom$Lamps" "count" "I", Cond.methodLink RX1 48 yX1_isIssuable, Cond.instanceMethod yX1_isIssuable, Cond.selects RX1 yX1_isIssuable yX1_isIssuable, Cond.code yX1_isIssuable cX1_isIssuable 3 (some .boolean), Cond.fieldLink RX1 9 "LampRoom$Lamps" "kinds" "[I", Cond.fieldLink RX1 15 "LampRoom$Lamps" "places" "[I"]
def wsL_ready_r2 : List Cond := [Cond.fieldLink RX1 25 "LampRoom$Lamps" "charges" "[D", Cond.constantDouble RX1 52 (4621256167635550208)]
def wsL_ready : List Cond := .codeWith yL_ready cL_ready 4 (some .int) [(0, 6, 9, 14)] :: ((wsL_ready_r1 ++ wsL_ready_r2) ++ wsX30 ++ wsX10 ++ (vx_atS RX3 117 "java/lang/IllegalArgumentException" ["java/lang/RuntimeException", "java/lang/Exception"]).filter goodWord)
def wsL_placeOf : List Cond := .codeWith yL_placeOf cL_placeOf 4 (some .int) [(0, 6, 9, 24)] :: ([.classLink RL 24 "java/lang/IndexOutOfBoundsException", .methodLink RL 42 yX3_placeOf, .instanceMethod yX3_placeOf, .selects RX3 yX3_placeOf yX3_placeOf, .initialized RX3, .code yX3_placeOf cX3_placeOf 2 (some .int), .fieldLink RX3 10 "LampRoom" "lamps" "LLampRoom$Lamps;", .methodLink RX3 97 yX3_checkLamp, .instanceMethod yX3_checkLamp, .selects RX3 yX3_checkLamp yX3_checkLamp, .code yX3_checkLamp cX3_checkLamp 2 none, .classLink RX3 149 "java/lang/IndexOutOfBoundsException", .initialized "java/lang/IndexOutOfBoundsException", .methodLink RX3 38 yX1_size, .instanceMethod yX1_size, .selects RX1 yX1_size yX1_size, .initialized RX1, .code yX1_size cX1_size 1 (some .int), .fieldLink RX1 32 "LampRoom$Lamps" "count" "I", .methodLink RX3 100 yX1_placeAt, .instanceMethod yX1_placeAt, .selects RX1 yX1_placeAt yX1_placeAt, .code yX1_placeAt cX1_placeAt 2 (some .int), .fieldLink RX1 15 "LampRoom$Lamps" "places" "[I"] ++ wsX30 ++ wsX10 ++ (vx_atS RX3 153 "java/lang/IndexOutOfBoundsException" ["java/lang/RuntimeException", "java/lang/Exception"]).filter goodWord)
def wsL_lampOf : List Cond := .codeWith yL_lampOf cL_lampOf 4 (some .int) [(0, 6, 9, 24)] :: ([.classLink RL 24 "java/lang/IndexOutOfBoundsException", .methodLink RL 45 yX3_lampOf, .instanceMethod yX3_lampOf, .selects RX3 yX3_lampOf yX3_lampOf, .initialized RX3, .code yX3_lampOf cX3_lampOf 2 (some .int), .fieldLink RX3 19 "LampRoom" "tallies" "LLampRoom$Tallies;", .methodLink RX3 59 yX3_checkMiner, .instanceMethod yX3_checkMiner, .selects RX3 yX3_checkMiner yX3_checkMiner, .code yX3_checkMiner cX3_checkMiner 2 none, .classLink RX3 149 "java/lang/IndexOutOfBoundsException", .initialized "java/lang/IndexOutOfBoundsException", .methodLink RX3 53 yX2_size, .instanceMethod yX2_size, .selects RX2 yX2_size yX2_size, .initialized RX2, .code yX2_size cX2_size 1 (some .int), .fieldLink RX2 24 "LampRoom$Tallies" "count" "I", .methodLink RX3 62 yX2_lampHeld, .instanceMethod yX2_lampHeld, .selects RX2 yX2_lampHeld yX2_lampHeld, .code yX2_lampHeld cX2_lampHeld 2 (some .int), .fieldLink RX2 15 "LampRoom$Tallies" "held" "[I"] ++ wsX30 ++ wsX20 ++ (vx_atS RX3 153 "java/lang/IndexOutOfBoundsException" ["java/lang/RuntimeException", "java/lang/Exception"]).filter goodWord)
def wsL_fresh : List Cond := .code yL_fresh cL_fresh 1 (some .double) :: ([.constantDouble RL 48 (4622945017495814144), .constantDouble RL 50 (4616189618054758400)])
def wsL_isWeak : List Cond := .code yL_isWeak cL_isWeak 3 (some .boolean) :: ([.constantDouble RL 52 (4604930618986332160), .methodLink RL 54 yL_fresh, .static yL_fresh, .initialized RL, .code yL_fresh cL_fresh 1 (some .double), .constantDouble RL 48 (4622945017495814144), .constantDouble RL 50 (4616189618054758400)])
def wsL_next : List Cond := .code yL_next cL_next 7 (some .int) :: ([.constantDouble RL 60 (4621256167635550208)])
def wsL_hour : List Cond := .code yL_hour cL_hour 11 (some .int) :: ([.constantDouble RL 62 (4609434218613702656), .constantDouble RL 64 (4612811918334230528)])
def wsL_isRead_r1 : List Cond := [Cond.methodLink RL 45 yX3_lampOf, Cond.instanceMethod yX3_lampOf, Cond.selects RX3 yX3_lampOf yX3_lampOf, Cond.initialized RX3, Cond.code yX3_lampOf cX3_lampOf 2 (some .int), Cond.fieldLink RX3 19 "LampRoom" "tallies" "LLampRoom$Tallies;", Cond.methodLink RX3 59 yX3_checkMiner, Cond.instanceMethod yX3_checkMiner, Cond.selects RX3 yX3_checkMiner yX3_checkMiner, Cond.code yX3_checkMiner cX3_checkMiner 2 none, Cond.classLink RX3 149 "java/lang/IndexOutOfBoundsException", Cond.initialized "java/lang/IndexOutOfBoundsException", Cond.methodLink RX3 53 yX2_size, Cond.instanceMethod yX2_size, Cond.selects RX2 yX2_size yX2_size, Cond.initialized RX2, Cond.code yX2_size cX2_size 1 (some .int), Cond.fieldLink RX2 24 "LampRoom$Tallies" "count" "I", Cond.methodLink RX3 62 yX2_lampHeld, Cond.instanceMethod yX2_lampHeld, Cond.selects RX2 yX2_lampHeld yX2_lampHeld, Cond.code yX2_lampHeld cX2_lampHeld 2 (some .int), Cond.fieldLink RX2 15 "LampRoom$Tallies" "held" "[I", Cond.methodLink RL 66 yX3_hoursBelow]
def wsL_isRead_r2 : List Cond := [Cond.instanceMethod yX3_hoursBelow, Cond.selects RX3 yX3_hoursBelow yX3_hoursBelow, Cond.code yX3_hoursBelow cX3_hoursBelow 2 (some .int), Cond.fieldLink RX3 30 "LampRoom" "clock" "I", Cond.methodLink RX3 85 yX2_hungAt, Cond.instanceMethod yX2_hungAt, Cond.selects RX2 yX2_hungAt yX2_hungAt, Cond.code yX2_hungAt cX2_hungAt 2 (some .int), Cond.fieldLink RX2 18 "LampRoom$Tallies" "hours" "[I", Cond.methodLink RL 69 yX3_board, Cond.instanceMethod yX3_board, Cond.selects RX3 yX3_board yX3_board, Cond.code yX3_board cX3_board 2 (some .int), Cond.methodLink RX3 124 yX2_onBoardAt, Cond.instanceMethod yX2_onBoardAt, Cond.selects RX2 yX2_onBoardAt yX2_onBoardAt, Cond.code yX2_onBoardAt cX2_onBoardAt 3 (some .int), Cond.methodLink RX2 31 yX2_countAhead, Cond.instanceMethod yX2_countAhead, Cond.selects RX2 yX2_countAhead yX2_countAhead, Cond.code yX2_countAhead cX2_countAhead 4 (some .int), Cond.fieldLink RX2 21 "LampRoom$Tallies" "orders" "[I", Cond.methodLink RL 72 yX3_alarm, Cond.instanceMethod yX3_alarm]
def wsL_isRead_r3 : List Cond := [Cond.selects RX3 yX3_alarm yX3_alarm, Cond.code yX3_alarm cX3_alarm 2 (some .int), Cond.fieldLink RX3 26 "LampRoom" "alarms" "LLampRoom$Alarms;", Cond.methodLink RX3 141 yX0_lastingAt, Cond.instanceMethod yX0_lastingAt, Cond.selects RX0 yX0_lastingAt yX0_lastingAt, Cond.initialized RX0, Cond.code yX0_lastingAt cX0_lastingAt 3 (some .int), Cond.fieldLink RX0 9 "LampRoom$Alarms" "began" "[I", Cond.methodLink RX0 15 yX0_countAhead, Cond.instanceMethod yX0_countAhead, Cond.selects RX0 yX0_countAhead yX0_countAhead, Cond.code yX0_countAhead cX0_countAhead 4 (some .int), Cond.methodLink RX0 19 yX0_isAhead, Cond.instanceMethod yX0_isAhead, Cond.selects RX0 yX0_isAhead yX0_isAhead, Cond.code yX0_isAhead cX0_isAhead 3 (some .boolean), Cond.methodLink RL 75 yX3_below, Cond.instanceMethod yX3_below, Cond.selects RX3 yX3_below yX3_below, Cond.code yX3_below cX3_below 1 (some .int), Cond.methodLink RX3 121 yX2_onBoard, Cond.instanceMethod yX2_onBoard, Cond.selects RX2 yX2_onBoard yX2_onBoard]
def wsL_isRead_r4 : List Cond := [Cond.code yX2_onBoard cX2_onBoard 3 (some .int), Cond.methodLink RL 79 yL_lampOf, Cond.static yL_lampOf, Cond.initialized RL, Cond.codeWith yL_lampOf cL_lampOf 4 (some .int) [(0, 6, 9, 24)], Cond.classLink RL 24 "java/lang/IndexOutOfBoundsException"]
def wsL_isRead : List Cond := .code yL_isRead cL_isRead 14 (some .boolean) :: ((wsL_isRead_r1 ++ (wsL_isRead_r2 ++ (wsL_isRead_r3 ++ wsL_isRead_r4))) ++ wsX30 ++ wsX20 ++ wsX00 ++ (vx_atS RX3 153 "java/lang/IndexOutOfBoundsException" ["java/lang/RuntimeException", "java/lang/Exception"]).filter goodWord)
def wsL_isRacked_r1 : List Cond := [Cond.constantDouble RL 60 (4621256167635550208), Cond.constantDouble RL 102 (4636737291354636288), Cond.methodLink RL 42 yX3_placeOf, Cond.instanceMethod yX3_placeOf, Cond.selects RX3 yX3_placeOf yX3_placeOf, Cond.initialized RX3, Cond.code yX3_placeOf cX3_placeOf 2 (some .int), Cond.fieldLink RX3 10 "LampRoom" "lamps" "LLampRoom$Lamps;", Cond.methodLink RX3 97 yX3_checkLamp, Cond.instanceMethod yX3_checkLamp, Cond.selects RX3 yX3_checkLamp yX3_checkLamp, Cond.code yX3_checkLamp cX3_checkLamp 2 none, Cond.classLink RX3 149 "java/lang/IndexOutOfBoundsException", Cond.initialized "java/lang/IndexOutOfBoundsException", Cond.methodLink RX3 38 yX1_size, Cond.instanceMethod yX1_size, Cond.selects RX1 yX1_size yX1_size, Cond.initialized RX1, Cond.code yX1_size cX1_size 1 (some .int), Cond.fieldLink RX1 32 "LampRoom$Lamps" "count" "I", Cond.methodLink RX3 100 yX1_placeAt, Cond.instanceMethod yX1_placeAt, Cond.selects RX1 yX1_placeAt yX1_placeAt, Cond.code yX1_placeAt cX1_placeAt 2 (some .int)]
def wsL_isRacked_r2 : List Cond := [Cond.fieldLink RX1 15 "LampRoom$Lamps" "places" "[I", Cond.methodLink RL 82 yX3_turnsOf, Cond.instanceMethod yX3_turnsOf, Cond.selects RX3 yX3_turnsOf yX3_turnsOf, Cond.code yX3_turnsOf cX3_turnsOf 2 (some .int), Cond.methodLink RX3 134 yX1_turnsAt, Cond.instanceMethod yX1_turnsAt, Cond.selects RX1 yX1_turnsAt yX1_turnsAt, Cond.code yX1_turnsAt cX1_turnsAt 2 (some .int), Cond.fieldLink RX1 18 "LampRoom$Lamps" "turns" "[I", Cond.methodLink RL 85 yX3_chargeOf, Cond.instanceMethod yX3_chargeOf, Cond.selects RX3 yX3_chargeOf yX3_chargeOf, Cond.code yX3_chargeOf cX3_chargeOf 2 (some .double), Cond.methodLink RX3 127 yX1_chargeAt, Cond.instanceMethod yX1_chargeAt, Cond.selects RX1 yX1_chargeAt yX1_chargeAt, Cond.code yX1_chargeAt cX1_chargeAt 2 (some .double), Cond.fieldLink RX1 25 "LampRoom$Lamps" "charges" "[D", Cond.methodLink RL 88 yX3_capacityOf, Cond.instanceMethod yX3_capacityOf, Cond.selects RX3 yX3_capacityOf yX3_capacityOf, Cond.code yX3_capacityOf cX3_capacityOf 2 (some .double), Cond.methodLink RX3 131 yX1_capacityAt]
def wsL_isRacked_r3 : List Cond := [Cond.instanceMethod yX1_capacityAt, Cond.selects RX1 yX1_capacityAt yX1_capacityAt, Cond.code yX1_capacityAt cX1_capacityAt 2 (some .double), Cond.fieldLink RX1 29 "LampRoom$Lamps" "capacities" "[D", Cond.methodLink RL 91 yL_ready, Cond.static yL_ready, Cond.initialized RL, Cond.codeWith yL_ready cL_ready 4 (some .int) [(0, 6, 9, 14)], Cond.classLink RL 14 "java/lang/IllegalArgumentException", Cond.methodLink RL 39 yX3_ready, Cond.instanceMethod yX3_ready, Cond.selects RX3 yX3_ready yX3_ready, Cond.code yX3_ready cX3_ready 2 (some .int), Cond.methodLink RX3 34 yX3_checkKind, Cond.static yX3_checkKind, Cond.code yX3_checkKind cX3_checkKind 1 none, Cond.classLink RX3 113 "java/lang/IllegalArgumentException", Cond.initialized "java/lang/IllegalArgumentException", Cond.methodLink RX3 137 yX1_countIssuable, Cond.instanceMethod yX1_countIssuable, Cond.selects RX1 yX1_countIssuable yX1_countIssuable, Cond.code yX1_countIssuable cX1_countIssuable 4 (some .int), Cond.methodLink RX1 48 yX1_isIssuable, Cond.instanceMethod yX1_isIssuable]
def wsL_isRacked_r4 : List Cond := [Cond.selects RX1 yX1_isIssuable yX1_isIssuable, Cond.code yX1_isIssuable cX1_isIssuable 3 (some .boolean), Cond.fieldLink RX1 9 "LampRoom$Lamps" "kinds" "[I", Cond.constantDouble RX1 52 (4621256167635550208), Cond.methodLink RL 93 yX3_lightLeft, Cond.instanceMethod yX3_lightLeft, Cond.selects RX3 yX3_lightLeft yX3_lightLeft, Cond.code yX3_lightLeft cX3_lightLeft 3 (some .int), Cond.fieldLink RX3 19 "LampRoom" "tallies" "LLampRoom$Tallies;", Cond.methodLink RX3 59 yX3_checkMiner, Cond.instanceMethod yX3_checkMiner, Cond.selects RX3 yX3_checkMiner yX3_checkMiner, Cond.code yX3_checkMiner cX3_checkMiner 2 none, Cond.methodLink RX3 53 yX2_size, Cond.instanceMethod yX2_size, Cond.selects RX2 yX2_size yX2_size, Cond.initialized RX2, Cond.code yX2_size cX2_size 1 (some .int), Cond.fieldLink RX2 24 "LampRoom$Tallies" "count" "I", Cond.methodLink RX3 62 yX2_lampHeld, Cond.instanceMethod yX2_lampHeld, Cond.selects RX2 yX2_lampHeld yX2_lampHeld, Cond.code yX2_lampHeld cX2_lampHeld 2 (some .int), Cond.fieldLink RX2 15 "LampRoom$Tallies" "held" "[I"]
def wsL_isRacked_r5 : List Cond := [Cond.methodLink RL 96 yX3_spares, Cond.instanceMethod yX3_spares, Cond.selects RX3 yX3_spares yX3_spares, Cond.code yX3_spares cX3_spares 4 (some .int), Cond.methodLink RX3 140 yX1_kindAt, Cond.instanceMethod yX1_kindAt, Cond.selects RX1 yX1_kindAt yX1_kindAt, Cond.code yX1_kindAt cX1_kindAt 2 (some .int), Cond.methodLink RX3 67 yX2_kindAt, Cond.instanceMethod yX2_kindAt, Cond.selects RX2 yX2_kindAt yX2_kindAt, Cond.code yX2_kindAt cX2_kindAt 2 (some .int), Cond.fieldLink RX2 9 "LampRoom$Tallies" "kinds" "[I", Cond.methodLink RL 99 yX3_rackCharge, Cond.instanceMethod yX3_rackCharge, Cond.selects RX3 yX3_rackCharge yX3_rackCharge, Cond.code yX3_rackCharge cX3_rackCharge 1 (some .int), Cond.methodLink RX3 144 yX1_hundredthsOnRack, Cond.instanceMethod yX1_hundredthsOnRack, Cond.selects RX1 yX1_hundredthsOnRack yX1_hundredthsOnRack, Cond.code yX1_hundredthsOnRack cX1_hundredthsOnRack 6 (some .int), Cond.constantDouble RX1 58 (4636737291354636288), Cond.methodLink RL 104 yL_placeOf, Cond.static yL_placeOf]
def wsL_isRacked_r6 : List Cond := [Cond.codeWith yL_placeOf cL_placeOf 4 (some .int) [(0, 6, 9, 24)], Cond.classLink RL 24 "java/lang/IndexOutOfBoundsException"]
def wsL_isRacked : List Cond := .code yL_isRacked cL_isRacked 14 (some .boolean) :: ((wsL_isRacked_r1 ++ (wsL_isRacked_r2 ++ (wsL_isRacked_r3 ++ (wsL_isRacked_r4 ++ (wsL_isRacked_r5 ++ wsL_isRacked_r6))))) ++ wsX30 ++ wsX10 ++ wsX20 ++ (vx_atS RX3 153 "java/lang/IndexOutOfBoundsException" ["java/lang/RuntimeException", "java/lang/Exception"]).filter goodWord ++ (vx_atS RX3 117 "java/lang/IllegalArgumentException" ["java/lang/RuntimeException", "java/lang/Exception"]).filter goodWord)
def wsL_keeps_r1 : List Cond := [Cond.constantDouble RL 122 (4606912202822375178), Cond.methodLink RL 106 yL_low, Cond.static yL_low, Cond.initialized RL, Cond.code yL_low cL_low 2 (some .int), Cond.methodLink RL 110 yL_addLamp, Cond.static yL_addLamp, Cond.codeWith yL_addLamp cL_addLamp 4 (some .int) [(0, 6, 9, 14), (0, 6, 13, 16)], Cond.classLink RL 14 "java/lang/IllegalArgumentException", Cond.classLink RL 16 "java/lang/IllegalStateException", Cond.methodLink RL 8 yX3_addLamp, Cond.instanceMethod yX3_addLamp, Cond.selects RX3 yX3_addLamp yX3_addLamp, Cond.initialized RX3, Cond.code yX3_addLamp cX3_addLamp 2 (some .int), Cond.classLink RX3 42 "java/lang/IllegalStateException", Cond.initialized "java/lang/IllegalStateException", Cond.fieldLink RX3 10 "LampRoom" "lamps" "LLampRoom$Lamps;", Cond.methodLink RX3 34 yX3_checkKind, Cond.static yX3_checkKind, Cond.code yX3_checkKind cX3_checkKind 1 none, Cond.classLink RX3 113 "java/lang/IllegalArgumentException", Cond.initialized "java/lang/IllegalArgumentException", Cond.methodLink RX3 38 yX1_size]
def wsL_keeps_r2 : List Cond := [Cond.instanceMethod yX1_size, Cond.selects RX1 yX1_size yX1_size, Cond.initialized RX1, Cond.code yX1_size cX1_size 1 (some .int), Cond.fieldLink RX1 32 "LampRoom$Lamps" "count" "I", Cond.methodLink RX3 49 yX1_hangNew, Cond.instanceMethod yX1_hangNew, Cond.selects RX1 yX1_hangNew yX1_hangNew, Cond.code yX1_hangNew cX1_hangNew 3 (some .int), Cond.fieldLink RX1 9 "LampRoom$Lamps" "kinds" "[I", Cond.fieldLink RX1 15 "LampRoom$Lamps" "places" "[I", Cond.fieldLink RX1 29 "LampRoom$Lamps" "capacities" "[D", Cond.fieldLink RX1 25 "LampRoom$Lamps" "charges" "[D", Cond.methodLink RX1 36 yX1_newCapacity, Cond.static yX1_newCapacity, Cond.code yX1_newCapacity cX1_newCapacity 1 (some .double), Cond.constantDouble RX1 60 (4622945017495814144), Cond.constantDouble RX1 62 (4625196817309499392), Cond.constantDouble RX1 64 (4626322717216342016), Cond.methodLink RL 54 yL_fresh, Cond.static yL_fresh, Cond.code yL_fresh cL_fresh 1 (some .double), Cond.constantDouble RL 48 (4622945017495814144), Cond.constantDouble RL 50 (4616189618054758400)]
def wsL_keeps_r3 : List Cond := [Cond.methodLink RL 112 yL_addMiner, Cond.static yL_addMiner, Cond.codeWith yL_addMiner cL_addMiner 4 (some .int) [(0, 6, 9, 14), (0, 6, 13, 16)], Cond.methodLink RL 18 yX3_addMiner, Cond.instanceMethod yX3_addMiner, Cond.selects RX3 yX3_addMiner yX3_addMiner, Cond.code yX3_addMiner cX3_addMiner 2 (some .int), Cond.fieldLink RX3 19 "LampRoom" "tallies" "LLampRoom$Tallies;", Cond.methodLink RX3 53 yX2_size, Cond.instanceMethod yX2_size, Cond.selects RX2 yX2_size yX2_size, Cond.initialized RX2, Cond.code yX2_size cX2_size 1 (some .int), Cond.fieldLink RX2 24 "LampRoom$Tallies" "count" "I", Cond.methodLink RX3 56 yX2_enter, Cond.instanceMethod yX2_enter, Cond.selects RX2 yX2_enter yX2_enter, Cond.code yX2_enter cX2_enter 3 (some .int), Cond.fieldLink RX2 9 "LampRoom$Tallies" "kinds" "[I", Cond.fieldLink RX2 15 "LampRoom$Tallies" "held" "[I", Cond.methodLink RL 114 yL_issue, Cond.static yL_issue, Cond.codeWith yL_issue cL_issue 4 (some .int) [(0, 6, 9, 24), (0, 6, 13, 16)], Cond.classLink RL 24 "java/lang/IndexOutOfBoundsException"]
def wsL_keeps_r4 : List Cond := [Cond.methodLink RL 21 yX3_issue, Cond.instanceMethod yX3_issue, Cond.selects RX3 yX3_issue yX3_issue, Cond.code yX3_issue cX3_issue 3 (some .int), Cond.fieldLink RX3 30 "LampRoom" "clock" "I", Cond.methodLink RX3 59 yX3_checkMiner, Cond.instanceMethod yX3_checkMiner, Cond.selects RX3 yX3_checkMiner yX3_checkMiner, Cond.code yX3_checkMiner cX3_checkMiner 2 none, Cond.classLink RX3 149 "java/lang/IndexOutOfBoundsException", Cond.initialized "java/lang/IndexOutOfBoundsException", Cond.methodLink RX3 62 yX2_lampHeld, Cond.instanceMethod yX2_lampHeld, Cond.selects RX2 yX2_lampHeld yX2_lampHeld, Cond.code yX2_lampHeld cX2_lampHeld 2 (some .int), Cond.methodLink RX3 67 yX2_kindAt, Cond.instanceMethod yX2_kindAt, Cond.selects RX2 yX2_kindAt yX2_kindAt, Cond.code yX2_kindAt cX2_kindAt 2 (some .int), Cond.methodLink RX3 70 yX1_bestFor, Cond.instanceMethod yX1_bestFor, Cond.selects RX1 yX1_bestFor yX1_bestFor, Cond.code yX1_bestFor cX1_bestFor 4 (some .int), Cond.methodLink RX1 44 yX1_fullestOf]
def wsL_keeps_r5 : List Cond := [Cond.instanceMethod yX1_fullestOf, Cond.selects RX1 yX1_fullestOf yX1_fullestOf, Cond.code yX1_fullestOf cX1_fullestOf 4 (some .int), Cond.methodLink RX1 48 yX1_isIssuable, Cond.instanceMethod yX1_isIssuable, Cond.selects RX1 yX1_isIssuable yX1_isIssuable, Cond.code yX1_isIssuable cX1_isIssuable 3 (some .boolean), Cond.constantDouble RX1 52 (4621256167635550208), Cond.methodLink RX3 75 yX1_moveTo, Cond.instanceMethod yX1_moveTo, Cond.selects RX1 yX1_moveTo yX1_moveTo, Cond.code yX1_moveTo cX1_moveTo 3 none, Cond.methodLink RX3 79 yX2_hangUp, Cond.instanceMethod yX2_hangUp, Cond.selects RX2 yX2_hangUp yX2_hangUp, Cond.code yX2_hangUp cX2_hangUp 4 none, Cond.fieldLink RX2 18 "LampRoom$Tallies" "hours" "[I", Cond.fieldLink RX2 21 "LampRoom$Tallies" "orders" "[I", Cond.fieldLink RX2 28 "LampRoom$Tallies" "issued" "I", Cond.methodLink RL 116 yL_back, Cond.static yL_back, Cond.codeWith yL_back cL_back 4 (some .int) [(0, 6, 9, 24), (0, 6, 13, 16)], Cond.methodLink RL 26 yX3_back, Cond.instanceMethod yX3_back]
def wsL_keeps_r6 : List Cond := [Cond.selects RX3 yX3_back yX3_back, Cond.code yX3_back cX3_back 4 (some .int), Cond.fieldLink RX3 26 "LampRoom" "alarms" "LLampRoom$Alarms;", Cond.methodLink RX3 85 yX2_hungAt, Cond.instanceMethod yX2_hungAt, Cond.selects RX2 yX2_hungAt yX2_hungAt, Cond.code yX2_hungAt cX2_hungAt 2 (some .int), Cond.methodLink RX3 88 yX1_takeBack, Cond.instanceMethod yX1_takeBack, Cond.selects RX1 yX1_takeBack yX1_takeBack, Cond.code yX1_takeBack cX1_takeBack 2 none, Cond.fieldLink RX1 18 "LampRoom$Lamps" "turns" "[I", Cond.fieldLink RX1 21 "LampRoom$Lamps" "leaks" "[Z", Cond.constantDouble RX1 40 (4606912202822375178), Cond.methodLink RX3 91 yX2_takeDown, Cond.instanceMethod yX2_takeDown, Cond.selects RX2 yX2_takeDown yX2_takeDown, Cond.code yX2_takeDown cX2_takeDown 2 none, Cond.methodLink RX3 94 yX0_end, Cond.instanceMethod yX0_end, Cond.selects RX0 yX0_end yX0_end, Cond.initialized RX0, Cond.code yX0_end cX0_end 2 none, Cond.fieldLink RX0 9 "LampRoom$Alarms" "began" "[I"]
def wsL_keeps_r7 : List Cond := [Cond.methodLink RL 118 yL_next, Cond.static yL_next, Cond.code yL_next cL_next 7 (some .int), Cond.constantDouble RL 60 (4621256167635550208), Cond.methodLink RL 124 yL_test, Cond.static yL_test, Cond.codeWith yL_test cL_test 4 (some .int) [(0, 6, 9, 24), (0, 6, 13, 16)], Cond.methodLink RL 29 yX3_test, Cond.instanceMethod yX3_test, Cond.selects RX3 yX3_test yX3_test, Cond.code yX3_test cX3_test 3 (some .int), Cond.methodLink RX3 97 yX3_checkLamp, Cond.instanceMethod yX3_checkLamp, Cond.selects RX3 yX3_checkLamp yX3_checkLamp, Cond.code yX3_checkLamp cX3_checkLamp 2 none, Cond.methodLink RX3 100 yX1_placeAt, Cond.instanceMethod yX1_placeAt, Cond.selects RX1 yX1_placeAt yX1_placeAt, Cond.code yX1_placeAt cX1_placeAt 2 (some .int), Cond.methodLink RX3 105 yX1_faultAt, Cond.instanceMethod yX1_faultAt, Cond.selects RX1 yX1_faultAt yX1_faultAt, Cond.code yX1_faultAt cX1_faultAt 2 (some .int), Cond.constantDouble RX1 42 (4604930618986332160)]
def wsL_keeps_r8 : List Cond := [Cond.methodLink RL 126 yL_mend, Cond.static yL_mend, Cond.codeWith yL_mend cL_mend 4 (some .int) [(0, 6, 9, 24), (0, 6, 13, 16)], Cond.methodLink RL 32 yX3_mend, Cond.instanceMethod yX3_mend, Cond.selects RX3 yX3_mend yX3_mend, Cond.code yX3_mend cX3_mend 3 (some .boolean), Cond.methodLink RX3 110 yX1_endLeak, Cond.instanceMethod yX1_endLeak, Cond.selects RX1 yX1_endLeak yX1_endLeak, Cond.code yX1_endLeak cX1_endLeak 2 none, Cond.methodLink RL 128 yL_isWeak, Cond.static yL_isWeak, Cond.code yL_isWeak cL_isWeak 3 (some .boolean), Cond.constantDouble RL 52 (4604930618986332160), Cond.methodLink RL 132 yL_hour, Cond.static yL_hour, Cond.code yL_hour cL_hour 11 (some .int), Cond.constantDouble RL 62 (4609434218613702656), Cond.constantDouble RL 64 (4612811918334230528), Cond.methodLink RL 136 yL_hours, Cond.static yL_hours, Cond.codeWith yL_hours cL_hours 4 (some .int) [(0, 6, 9, 14)], Cond.methodLink RL 36 yX3_hours]
def wsL_keeps_r9 : List Cond := [Cond.instanceMethod yX3_hours, Cond.selects RX3 yX3_hours yX3_hours, Cond.code yX3_hours cX3_hours 4 (some .int), Cond.methodLink RX3 118 yX3_passHour, Cond.instanceMethod yX3_passHour, Cond.selects RX3 yX3_passHour yX3_passHour, Cond.code yX3_passHour cX3_passHour 4 (some .int), Cond.methodLink RX3 156 yX1_burn, Cond.instanceMethod yX1_burn, Cond.selects RX1 yX1_burn yX1_burn, Cond.code yX1_burn cX1_burn 4 none, Cond.constantDouble RX1 54 (4609434218613702656), Cond.methodLink RX3 159 yX1_load, Cond.instanceMethod yX1_load, Cond.selects RX1 yX1_load yX1_load, Cond.code yX1_load cX1_load 5 none, Cond.constantDouble RX1 56 (4612811918334230528), Cond.methodLink RX3 162 yX3_beginAlarms, Cond.instanceMethod yX3_beginAlarms, Cond.selects RX3 yX3_beginAlarms yX3_beginAlarms, Cond.code yX3_beginAlarms cX3_beginAlarms 4 (some .int), Cond.methodLink RX3 166 yX0_begin, Cond.instanceMethod yX0_begin, Cond.selects RX0 yX0_begin yX0_begin]
def wsL_keeps_r10 : List Cond := [Cond.code yX0_begin cX0_begin 5 (some .boolean), Cond.methodLink RX3 127 yX1_chargeAt, Cond.instanceMethod yX1_chargeAt, Cond.selects RX1 yX1_chargeAt yX1_chargeAt, Cond.code yX1_chargeAt cX1_chargeAt 2 (some .double)]
def wsL_keeps : List Cond := .code yL_keeps cL_keeps 23 (some .boolean) :: ((wsL_keeps_r1 ++ (wsL_keeps_r2 ++ (wsL_keeps_r3 ++ (wsL_keeps_r4 ++ (wsL_keeps_r5 ++ (wsL_keeps_r6 ++ (wsL_keeps_r7 ++ (wsL_keeps_r8 ++ (wsL_keeps_r9 ++ wsL_keeps_r10))))))))) ++ wsX30 ++ wsX10 ++ wsX20 ++ wsX00 ++ (vx_atS RX3 46 "java/lang/IllegalStateException" ["java/lang/RuntimeException", "java/lang/Exception"]).filter goodWord ++ (vx_atS RX3 117 "java/lang/IllegalArgumentException" ["java/lang/RuntimeException", "java/lang/Exception"]).filter goodWord ++ (vx_atS RX3 153 "java/lang/IndexOutOfBoundsException" ["java/lang/RuntimeException", "java/lang/Exception"]).filter goodWord)
def wsL_law0_r1 : List Cond := [Cond.classLink RL 9 RX3, Cond.instantiable RX3 4, Cond.initialized RX3, Cond.arrayClass .int, Cond.arrayClass .double, Cond.constantDouble RL 155 (4626322717216342016), Cond.constantDouble RL 157 (4613937818241073152), Cond.constantDouble RL 159 (4611686018427387904), Cond.constantDouble RL 122 (4606912202822375178), Cond.methodLink RL 138 yX3_init, Cond.instanceMethod yX3_init, Cond.code yX3_init cX3_init 1 none, Cond.methodLink RX3 1 objectInit, Cond.instanceMethod objectInit, Cond.code objectInit ⟨#[0xb1]⟩ 1 none, Cond.classLink RX3 7 RX1, Cond.instantiable RX1 7, Cond.initialized RX1, Cond.fieldLink RX3 10 "LampRoom" "lamps" "LLampRoom$Lamps;", Cond.classLink RX3 16 RX2, Cond.instantiable RX2 6, Cond.initialized RX2, Cond.fieldLink RX3 19 "LampRoom" "tallies" "LLampRoom$Tallies;", Cond.classLink RX3 23 RX0]
def wsL_law0_r2 : List Cond := [Cond.instantiable RX0 1, Cond.initialized RX0, Cond.fieldLink RX3 26 "LampRoom" "alarms" "LLampRoom$Alarms;", Cond.fieldLink RX3 30 "LampRoom" "clock" "I", Cond.instanceMethod yX1_init, Cond.code yX1_init cX1_init 1 none, Cond.methodLink RX1 3 objectInit, Cond.fieldLink RX1 9 "LampRoom$Lamps" "kinds" "[I", Cond.fieldLink RX1 15 "LampRoom$Lamps" "places" "[I", Cond.fieldLink RX1 18 "LampRoom$Lamps" "turns" "[I", Cond.arrayClass .boolean, Cond.fieldLink RX1 21 "LampRoom$Lamps" "leaks" "[Z", Cond.fieldLink RX1 25 "LampRoom$Lamps" "charges" "[D", Cond.fieldLink RX1 29 "LampRoom$Lamps" "capacities" "[D", Cond.fieldLink RX1 32 "LampRoom$Lamps" "count" "I", Cond.instanceMethod yX2_init, Cond.code yX2_init cX2_init 1 none, Cond.methodLink RX2 3 objectInit, Cond.fieldLink RX2 9 "LampRoom$Tallies" "kinds" "[I", Cond.fieldLink RX2 15 "LampRoom$Tallies" "held" "[I", Cond.fieldLink RX2 18 "LampRoom$Tallies" "hours" "[I", Cond.fieldLink RX2 21 "LampRoom$Tallies" "orders" "[I", Cond.fieldLink RX2 24 "LampRoom$Tallies" "count" "I", Cond.fieldLink RX2 28 "LampRoom$Tallies" "issued" "I"]
def wsL_law0_r3 : List Cond := [Cond.instanceMethod yX0_init, Cond.code yX0_init cX0_init 1 none, Cond.methodLink RX0 3 objectInit, Cond.fieldLink RX0 9 "LampRoom$Alarms" "began" "[I", Cond.methodLink RL 139 yL_cell, Cond.static yL_cell, Cond.initialized RL, Cond.code yL_cell cL_cell 2 (some .int), Cond.constant RL 7 (727457335), Cond.methodLink RL 143 yL_keeps, Cond.static yL_keeps, Cond.code yL_keeps cL_keeps 23 (some .boolean), Cond.methodLink RL 106 yL_low, Cond.static yL_low, Cond.code yL_low cL_low 2 (some .int), Cond.methodLink RL 110 yL_addLamp, Cond.static yL_addLamp, Cond.codeWith yL_addLamp cL_addLamp 4 (some .int) [(0, 6, 9, 14), (0, 6, 13, 16)], Cond.classLink RL 14 "java/lang/IllegalArgumentException", Cond.classLink RL 16 "java/lang/IllegalStateException", Cond.methodLink RL 8 yX3_addLamp, Cond.instanceMethod yX3_addLamp, Cond.selects RX3 yX3_addLamp yX3_addLamp, Cond.code yX3_addLamp cX3_addLamp 2 (some .int)]
def wsL_law0_r4 : List Cond := [Cond.classLink RX3 42 "java/lang/IllegalStateException", Cond.initialized "java/lang/IllegalStateException", Cond.methodLink RX3 34 yX3_checkKind, Cond.static yX3_checkKind, Cond.code yX3_checkKind cX3_checkKind 1 none, Cond.classLink RX3 113 "java/lang/IllegalArgumentException", Cond.initialized "java/lang/IllegalArgumentException", Cond.methodLink RX3 38 yX1_size, Cond.instanceMethod yX1_size, Cond.selects RX1 yX1_size yX1_size, Cond.code yX1_size cX1_size 1 (some .int), Cond.methodLink RX3 49 yX1_hangNew, Cond.instanceMethod yX1_hangNew, Cond.selects RX1 yX1_hangNew yX1_hangNew, Cond.code yX1_hangNew cX1_hangNew 3 (some .int), Cond.methodLink RX1 36 yX1_newCapacity, Cond.static yX1_newCapacity, Cond.code yX1_newCapacity cX1_newCapacity 1 (some .double), Cond.constantDouble RX1 60 (4622945017495814144), Cond.constantDouble RX1 62 (4625196817309499392), Cond.constantDouble RX1 64 (4626322717216342016), Cond.methodLink RL 54 yL_fresh, Cond.static yL_fresh, Cond.code yL_fresh cL_fresh 1 (some .double)]
def wsL_law0_r5 : List Cond := [Cond.constantDouble RL 48 (4622945017495814144), Cond.constantDouble RL 50 (4616189618054758400), Cond.methodLink RL 112 yL_addMiner, Cond.static yL_addMiner, Cond.codeWith yL_addMiner cL_addMiner 4 (some .int) [(0, 6, 9, 14), (0, 6, 13, 16)], Cond.methodLink RL 18 yX3_addMiner, Cond.instanceMethod yX3_addMiner, Cond.selects RX3 yX3_addMiner yX3_addMiner, Cond.code yX3_addMiner cX3_addMiner 2 (some .int), Cond.methodLink RX3 53 yX2_size, Cond.instanceMethod yX2_size, Cond.selects RX2 yX2_size yX2_size, Cond.code yX2_size cX2_size 1 (some .int), Cond.methodLink RX3 56 yX2_enter, Cond.instanceMethod yX2_enter, Cond.selects RX2 yX2_enter yX2_enter, Cond.code yX2_enter cX2_enter 3 (some .int), Cond.methodLink RL 114 yL_issue, Cond.static yL_issue, Cond.codeWith yL_issue cL_issue 4 (some .int) [(0, 6, 9, 24), (0, 6, 13, 16)], Cond.classLink RL 24 "java/lang/IndexOutOfBoundsException", Cond.methodLink RL 21 yX3_issue, Cond.instanceMethod yX3_issue, Cond.selects RX3 yX3_issue yX3_issue]
def wsL_law0_r6 : List Cond := [Cond.code yX3_issue cX3_issue 3 (some .int), Cond.methodLink RX3 59 yX3_checkMiner, Cond.instanceMethod yX3_checkMiner, Cond.selects RX3 yX3_checkMiner yX3_checkMiner, Cond.code yX3_checkMiner cX3_checkMiner 2 none, Cond.classLink RX3 149 "java/lang/IndexOutOfBoundsException", Cond.initialized "java/lang/IndexOutOfBoundsException", Cond.methodLink RX3 62 yX2_lampHeld, Cond.instanceMethod yX2_lampHeld, Cond.selects RX2 yX2_lampHeld yX2_lampHeld, Cond.code yX2_lampHeld cX2_lampHeld 2 (some .int), Cond.methodLink RX3 67 yX2_kindAt, Cond.instanceMethod yX2_kindAt, Cond.selects RX2 yX2_kindAt yX2_kindAt, Cond.code yX2_kindAt cX2_kindAt 2 (some .int), Cond.methodLink RX3 70 yX1_bestFor, Cond.instanceMethod yX1_bestFor, Cond.selects RX1 yX1_bestFor yX1_bestFor, Cond.code yX1_bestFor cX1_bestFor 4 (some .int), Cond.methodLink RX1 44 yX1_fullestOf, Cond.instanceMethod yX1_fullestOf, Cond.selects RX1 yX1_fullestOf yX1_fullestOf, Cond.code yX1_fullestOf cX1_fullestOf 4 (some .int), Cond.methodLink RX1 48 yX1_isIssuable]
def wsL_law0_r7 : List Cond := [Cond.instanceMethod yX1_isIssuable, Cond.selects RX1 yX1_isIssuable yX1_isIssuable, Cond.code yX1_isIssuable cX1_isIssuable 3 (some .boolean), Cond.constantDouble RX1 52 (4621256167635550208), Cond.methodLink RX3 75 yX1_moveTo, Cond.instanceMethod yX1_moveTo, Cond.selects RX1 yX1_moveTo yX1_moveTo, Cond.code yX1_moveTo cX1_moveTo 3 none, Cond.methodLink RX3 79 yX2_hangUp, Cond.instanceMethod yX2_hangUp, Cond.selects RX2 yX2_hangUp yX2_hangUp, Cond.code yX2_hangUp cX2_hangUp 4 none, Cond.methodLink RL 116 yL_back, Cond.static yL_back, Cond.codeWith yL_back cL_back 4 (some .int) [(0, 6, 9, 24), (0, 6, 13, 16)], Cond.methodLink RL 26 yX3_back, Cond.instanceMethod yX3_back, Cond.selects RX3 yX3_back yX3_back, Cond.code yX3_back cX3_back 4 (some .int), Cond.methodLink RX3 85 yX2_hungAt, Cond.instanceMethod yX2_hungAt, Cond.selects RX2 yX2_hungAt yX2_hungAt, Cond.code yX2_hungAt cX2_hungAt 2 (some .int), Cond.methodLink RX3 88 yX1_takeBack]
def wsL_law0_r8 : List Cond := [Cond.instanceMethod yX1_takeBack, Cond.selects RX1 yX1_takeBack yX1_takeBack, Cond.code yX1_takeBack cX1_takeBack 2 none, Cond.constantDouble RX1 40 (4606912202822375178), Cond.methodLink RX3 91 yX2_takeDown, Cond.instanceMethod yX2_takeDown, Cond.selects RX2 yX2_takeDown yX2_takeDown, Cond.code yX2_takeDown cX2_takeDown 2 none, Cond.methodLink RX3 94 yX0_end, Cond.instanceMethod yX0_end, Cond.selects RX0 yX0_end yX0_end, Cond.code yX0_end cX0_end 2 none, Cond.methodLink RL 118 yL_next, Cond.static yL_next, Cond.code yL_next cL_next 7 (some .int), Cond.constantDouble RL 60 (4621256167635550208), Cond.methodLink RL 124 yL_test, Cond.static yL_test, Cond.codeWith yL_test cL_test 4 (some .int) [(0, 6, 9, 24), (0, 6, 13, 16)], Cond.methodLink RL 29 yX3_test, Cond.instanceMethod yX3_test, Cond.selects RX3 yX3_test yX3_test, Cond.code yX3_test cX3_test 3 (some .int), Cond.methodLink RX3 97 yX3_checkLamp]
def wsL_law0_r9 : List Cond := [Cond.instanceMethod yX3_checkLamp, Cond.selects RX3 yX3_checkLamp yX3_checkLamp, Cond.code yX3_checkLamp cX3_checkLamp 2 none, Cond.methodLink RX3 100 yX1_placeAt, Cond.instanceMethod yX1_placeAt, Cond.selects RX1 yX1_placeAt yX1_placeAt, Cond.code yX1_placeAt cX1_placeAt 2 (some .int), Cond.methodLink RX3 105 yX1_faultAt, Cond.instanceMethod yX1_faultAt, Cond.selects RX1 yX1_faultAt yX1_faultAt, Cond.code yX1_faultAt cX1_faultAt 2 (some .int), Cond.constantDouble RX1 42 (4604930618986332160), Cond.methodLink RL 126 yL_mend, Cond.static yL_mend, Cond.codeWith yL_mend cL_mend 4 (some .int) [(0, 6, 9, 24), (0, 6, 13, 16)], Cond.methodLink RL 32 yX3_mend, Cond.instanceMethod yX3_mend, Cond.selects RX3 yX3_mend yX3_mend, Cond.code yX3_mend cX3_mend 3 (some .boolean), Cond.methodLink RX3 110 yX1_endLeak, Cond.instanceMethod yX1_endLeak, Cond.selects RX1 yX1_endLeak yX1_endLeak, Cond.code yX1_endLeak cX1_endLeak 2 none, Cond.methodLink RL 128 yL_isWeak]
def wsL_law0_r10 : List Cond := [Cond.static yL_isWeak, Cond.code yL_isWeak cL_isWeak 3 (some .boolean), Cond.constantDouble RL 52 (4604930618986332160), Cond.methodLink RL 132 yL_hour, Cond.static yL_hour, Cond.code yL_hour cL_hour 11 (some .int), Cond.constantDouble RL 62 (4609434218613702656), Cond.constantDouble RL 64 (4612811918334230528), Cond.methodLink RL 136 yL_hours, Cond.static yL_hours, Cond.codeWith yL_hours cL_hours 4 (some .int) [(0, 6, 9, 14)], Cond.methodLink RL 36 yX3_hours, Cond.instanceMethod yX3_hours, Cond.selects RX3 yX3_hours yX3_hours, Cond.code yX3_hours cX3_hours 4 (some .int), Cond.methodLink RX3 118 yX3_passHour, Cond.instanceMethod yX3_passHour, Cond.selects RX3 yX3_passHour yX3_passHour, Cond.code yX3_passHour cX3_passHour 4 (some .int), Cond.methodLink RX3 156 yX1_burn, Cond.instanceMethod yX1_burn, Cond.selects RX1 yX1_burn yX1_burn, Cond.code yX1_burn cX1_burn 4 none, Cond.constantDouble RX1 54 (4609434218613702656)]
def wsL_law0_r11 : List Cond := [Cond.methodLink RX3 159 yX1_load, Cond.instanceMethod yX1_load, Cond.selects RX1 yX1_load yX1_load, Cond.code yX1_load cX1_load 5 none, Cond.constantDouble RX1 56 (4612811918334230528), Cond.methodLink RX3 162 yX3_beginAlarms, Cond.instanceMethod yX3_beginAlarms, Cond.selects RX3 yX3_beginAlarms yX3_beginAlarms, Cond.code yX3_beginAlarms cX3_beginAlarms 4 (some .int), Cond.methodLink RX3 166 yX0_begin, Cond.instanceMethod yX0_begin, Cond.selects RX0 yX0_begin yX0_begin, Cond.code yX0_begin cX0_begin 5 (some .boolean), Cond.methodLink RX3 127 yX1_chargeAt, Cond.instanceMethod yX1_chargeAt, Cond.selects RX1 yX1_chargeAt yX1_chargeAt, Cond.code yX1_chargeAt cX1_chargeAt 2 (some .double), Cond.methodLink RL 147 yL_isRead, Cond.static yL_isRead, Cond.code yL_isRead cL_isRead 14 (some .boolean), Cond.methodLink RL 45 yX3_lampOf, Cond.instanceMethod yX3_lampOf, Cond.selects RX3 yX3_lampOf yX3_lampOf, Cond.code yX3_lampOf cX3_lampOf 2 (some .int)]
def wsL_law0_r12 : List Cond := [Cond.methodLink RL 66 yX3_hoursBelow, Cond.instanceMethod yX3_hoursBelow, Cond.selects RX3 yX3_hoursBelow yX3_hoursBelow, Cond.code yX3_hoursBelow cX3_hoursBelow 2 (some .int), Cond.methodLink RL 69 yX3_board, Cond.instanceMethod yX3_board, Cond.selects RX3 yX3_board yX3_board, Cond.code yX3_board cX3_board 2 (some .int), Cond.methodLink RX3 124 yX2_onBoardAt, Cond.instanceMethod yX2_onBoardAt, Cond.selects RX2 yX2_onBoardAt yX2_onBoardAt, Cond.code yX2_onBoardAt cX2_onBoardAt 3 (some .int), Cond.methodLink RX2 31 yX2_countAhead, Cond.instanceMethod yX2_countAhead, Cond.selects RX2 yX2_countAhead yX2_countAhead, Cond.code yX2_countAhead cX2_countAhead 4 (some .int), Cond.methodLink RL 72 yX3_alarm, Cond.instanceMethod yX3_alarm, Cond.selects RX3 yX3_alarm yX3_alarm, Cond.code yX3_alarm cX3_alarm 2 (some .int), Cond.methodLink RX3 141 yX0_lastingAt, Cond.instanceMethod yX0_lastingAt, Cond.selects RX0 yX0_lastingAt yX0_lastingAt, Cond.code yX0_lastingAt cX0_lastingAt 3 (some .int)]
def wsL_law0_r13 : List Cond := [Cond.methodLink RX0 15 yX0_countAhead, Cond.instanceMethod yX0_countAhead, Cond.selects RX0 yX0_countAhead yX0_countAhead, Cond.code yX0_countAhead cX0_countAhead 4 (some .int), Cond.methodLink RX0 19 yX0_isAhead, Cond.instanceMethod yX0_isAhead, Cond.selects RX0 yX0_isAhead yX0_isAhead, Cond.code yX0_isAhead cX0_isAhead 3 (some .boolean), Cond.methodLink RL 75 yX3_below, Cond.instanceMethod yX3_below, Cond.selects RX3 yX3_below yX3_below, Cond.code yX3_below cX3_below 1 (some .int), Cond.methodLink RX3 121 yX2_onBoard, Cond.instanceMethod yX2_onBoard, Cond.selects RX2 yX2_onBoard yX2_onBoard, Cond.code yX2_onBoard cX2_onBoard 3 (some .int), Cond.methodLink RL 79 yL_lampOf, Cond.static yL_lampOf, Cond.codeWith yL_lampOf cL_lampOf 4 (some .int) [(0, 6, 9, 24)], Cond.methodLink RL 151 yL_isRacked, Cond.static yL_isRacked, Cond.code yL_isRacked cL_isRacked 14 (some .boolean), Cond.constantDouble RL 102 (4636737291354636288), Cond.methodLink RL 42 yX3_placeOf]
def wsL_law0_r14 : List Cond := [Cond.instanceMethod yX3_placeOf, Cond.selects RX3 yX3_placeOf yX3_placeOf, Cond.code yX3_placeOf cX3_placeOf 2 (some .int), Cond.methodLink RL 82 yX3_turnsOf, Cond.instanceMethod yX3_turnsOf, Cond.selects RX3 yX3_turnsOf yX3_turnsOf, Cond.code yX3_turnsOf cX3_turnsOf 2 (some .int), Cond.methodLink RX3 134 yX1_turnsAt, Cond.instanceMethod yX1_turnsAt, Cond.selects RX1 yX1_turnsAt yX1_turnsAt, Cond.code yX1_turnsAt cX1_turnsAt 2 (some .int), Cond.methodLink RL 85 yX3_chargeOf, Cond.instanceMethod yX3_chargeOf, Cond.selects RX3 yX3_chargeOf yX3_chargeOf, Cond.code yX3_chargeOf cX3_chargeOf 2 (some .double), Cond.methodLink RL 88 yX3_capacityOf, Cond.instanceMethod yX3_capacityOf, Cond.selects RX3 yX3_capacityOf yX3_capacityOf, Cond.code yX3_capacityOf cX3_capacityOf 2 (some .double), Cond.methodLink RX3 131 yX1_capacityAt, Cond.instanceMethod yX1_capacityAt, Cond.selects RX1 yX1_capacityAt yX1_capacityAt, Cond.code yX1_capacityAt cX1_capacityAt 2 (some .double), Cond.methodLink RL 91 yL_ready]
def wsL_law0_r15 : List Cond := [Cond.static yL_ready, Cond.codeWith yL_ready cL_ready 4 (some .int) [(0, 6, 9, 14)], Cond.methodLink RL 39 yX3_ready, Cond.instanceMethod yX3_ready, Cond.selects RX3 yX3_ready yX3_ready, Cond.code yX3_ready cX3_ready 2 (some .int), Cond.methodLink RX3 137 yX1_countIssuable, Cond.instanceMethod yX1_countIssuable, Cond.selects RX1 yX1_countIssuable yX1_countIssuable, Cond.code yX1_countIssuable cX1_countIssuable 4 (some .int), Cond.methodLink RL 93 yX3_lightLeft, Cond.instanceMethod yX3_lightLeft, Cond.selects RX3 yX3_lightLeft yX3_lightLeft, Cond.code yX3_lightLeft cX3_lightLeft 3 (some .int), Cond.methodLink RL 96 yX3_spares, Cond.instanceMethod yX3_spares, Cond.selects RX3 yX3_spares yX3_spares, Cond.code yX3_spares cX3_spares 4 (some .int), Cond.methodLink RX3 140 yX1_kindAt, Cond.instanceMethod yX1_kindAt, Cond.selects RX1 yX1_kindAt yX1_kindAt, Cond.code yX1_kindAt cX1_kindAt 2 (some .int), Cond.methodLink RL 99 yX3_rackCharge, Cond.instanceMethod yX3_rackCharge]
def wsL_law0_r16 : List Cond := [Cond.selects RX3 yX3_rackCharge yX3_rackCharge, Cond.code yX3_rackCharge cX3_rackCharge 1 (some .int), Cond.methodLink RX3 144 yX1_hundredthsOnRack, Cond.instanceMethod yX1_hundredthsOnRack, Cond.selects RX1 yX1_hundredthsOnRack yX1_hundredthsOnRack, Cond.code yX1_hundredthsOnRack cX1_hundredthsOnRack 6 (some .int), Cond.constantDouble RX1 58 (4636737291354636288), Cond.methodLink RL 104 yL_placeOf, Cond.static yL_placeOf, Cond.codeWith yL_placeOf cL_placeOf 4 (some .int) [(0, 6, 9, 24)]]
def wsL_law0 : List Cond := (wsL_law0_r1 ++ (wsL_law0_r2 ++ (wsL_law0_r3 ++ (wsL_law0_r4 ++ (wsL_law0_r5 ++ (wsL_law0_r6 ++ (wsL_law0_r7 ++ (wsL_law0_r8 ++ (wsL_law0_r9 ++ (wsL_law0_r10 ++ (wsL_law0_r11 ++ (wsL_law0_r12 ++ (wsL_law0_r13 ++ (wsL_law0_r14 ++ (wsL_law0_r15 ++ wsL_law0_r16))))))))))))))) ++ wsX30 ++ wsX10 ++ wsX20 ++ wsX00 ++ ([] : List Cond)
def wsL_law : List Cond := wsL_law0 ++ (vx_atS RX3 46 "java/lang/IllegalStateException" ["java/lang/RuntimeException", "java/lang/Exception"]).filter goodWord ++ (vx_atS RX3 117 "java/lang/IllegalArgumentException" ["java/lang/RuntimeException", "java/lang/Exception"]).filter goodWord ++ (vx_atS RX3 153 "java/lang/IndexOutOfBoundsException" ["java/lang/RuntimeException", "java/lang/Exception"]).filter goodWord
set_option maxRecDepth 20000 in
theorem wsL_law0_r1_in : ∀ w ∈ wsL_law0_r1, w ∈ lw_tbl := fun w h => (goodIn_r wsL_law0_r1 [21, 22, 11, 57, 59, 528, 529, 530, 518, 23, 24, 25, 26, 27, 28, 29, 30, 12, 95, 60, 61, 13, 96, 85] (by decide +kernel) (by decide +kernel) w h).1
set_option maxRecDepth 20000 in
theorem wsL_law0_r2_in : ∀ w ∈ wsL_law0_r2, w ∈ lw_tbl := fun w h => (goodIn_r wsL_law0_r2 [86, 14, 97, 98, 32, 33, 34, 35, 36, 37, 58, 38, 39, 40, 41, 63, 64, 65, 66, 67, 68, 69, 70, 71] (by decide +kernel) (by decide +kernel) w h).1
set_option maxRecDepth 20000 in
theorem wsL_law0_r3_in : ∀ w ∈ wsL_law0_r3, w ∈ lw_tbl := by
  show ∀ w ∈ ([Cond.instanceMethod yX0_init, Cond.code yX0_init cX0_init 1 none, Cond.methodLink RX0 3 objectInit, Cond.fieldLink RX0 9 "LampRoom$Alarms" "began" "[I", Cond.methodLink RL 139 yL_cell, Cond.static yL_cell, Cond.initialized RL, Cond.code yL_cell cL_cell 2 (some .int), Cond.constant RL 7 (727457335), Cond.methodLink RL 143 yL_keeps, Cond.static yL_keeps] ++ (Cond.code yL_keeps cL_keeps 23 (some .boolean)) :: [Cond.methodLink RL 106 yL_low, Cond.static yL_low, Cond.code yL_low cL_low 2 (some .int), Cond.methodLink RL 110 yL_addLamp, Cond.static yL_addLamp, Cond.codeWith yL_addLamp cL_addLamp 4 (some .int) [(0, 6, 9, 14), (0, 6, 13, 16)], Cond.classLink RL 14 "java/lang/IllegalArgumentException", Cond.classLink RL 16 "java/lang/IllegalStateException", Cond.methodLink RL 8 yX3_addLamp, Cond.instanceMethod yX3_addLamp, Cond.selects RX3 yX3_addLamp yX3_addLamp, Cond.code yX3_addLamp cX3_addLamp 2 (some .int)] : List Cond), w ∈ lw_tbl
  exact List.forall_mem_append.mpr ⟨(fun w h => (goodIn_r [Cond.instanceMethod yX0_init, Cond.code yX0_init cX0_init 1 none, Cond.methodLink RX0 3 objectInit, Cond.fieldLink RX0 9 "LampRoom$Alarms" "began" "[I", Cond.methodLink RL 139 yL_cell, Cond.static yL_cell, Cond.initialized RL, Cond.code yL_cell cL_cell 2 (some .int), Cond.constant RL 7 (727457335), Cond.methodLink RL 143 yL_keeps, Cond.static yL_keeps] [88, 89, 90, 91, 237, 238, 10, 239, 240, 504, 505] (by decide +kernel) (by decide +kernel) w h).1), List.forall_mem_cons.mpr ⟨List.mem_of_getElem? (i := 506) rfl, (fun w h => (goodIn_r [Cond.methodLink RL 106 yL_low, Cond.static yL_low, Cond.code yL_low cL_low 2 (some .int), Cond.methodLink RL 110 yL_addLamp, Cond.static yL_addLamp, Cond.codeWith yL_addLamp cL_addLamp 4 (some .int) [(0, 6, 9, 14), (0, 6, 13, 16)], Cond.classLink RL 14 "java/lang/IllegalArgumentException", Cond.classLink RL 16 "java/lang/IllegalStateException", Cond.methodLink RL 8 yX3_addLamp, Cond.instanceMethod yX3_addLamp, Cond.selects RX3 yX3_addLamp yX3_addLamp, Cond.code yX3_addLamp cX3_addLamp 2 (some .int)] [507, 508, 509, 241, 242, 243, 244, 245, 246, 247, 248, 249] (by decide +kernel) (by decide +kernel) w h).1)⟩⟩
set_option maxRecDepth 20000 in
theorem wsL_law0_r4_in : ∀ w ∈ wsL_law0_r4, w ∈ lw_tbl := fun w h => (goodIn_r wsL_law0_r4 [269, 19, 250, 251, 252, 253, 18, 116, 117, 118, 119, 285, 286, 287, 288, 289, 290, 291, 292, 293, 294, 510, 511, 512] (by decide +kernel) (by decide +kernel) w h).1
set_option maxRecDepth 20000 in
theorem wsL_law0_r5_in : ∀ w ∈ wsL_law0_r5, w ∈ lw_tbl := fun w h => (goodIn_r wsL_law0_r5 [513, 514, 295, 296, 297, 298, 299, 300, 301, 212, 213, 214, 215, 303, 304, 305, 306, 307, 308, 309, 310, 311, 312, 313] (by decide +kernel) (by decide +kernel) w h).1
set_option maxRecDepth 20000 in
theorem wsL_law0_r6_in : ∀ w ∈ wsL_law0_r6, w ∈ lw_tbl := fun w h => (goodIn_r wsL_law0_r6 [314, 315, 317, 2, 318, 120, 20, 216, 217, 218, 219, 224, 225, 226, 227, 321, 322, 323, 324, 325, 327, 3, 328, 329] (by decide +kernel) (by decide +kernel) w h).1
set_option maxRecDepth 20000 in
theorem wsL_law0_r7_in : ∀ w ∈ wsL_law0_r7, w ∈ lw_tbl := fun w h => (goodIn_r wsL_law0_r7 [331, 4, 332, 333, 335, 336, 337, 338, 339, 340, 341, 342, 343, 344, 345, 346, 347, 348, 349, 351, 352, 353, 354, 355] (by decide +kernel) (by decide +kernel) w h).1
set_option maxRecDepth 20000 in
theorem wsL_law0_r8_in : ∀ w ∈ wsL_law0_r8, w ∈ lw_tbl := fun w h => (goodIn_r wsL_law0_r8 [356, 357, 358, 359, 360, 361, 362, 363, 364, 365, 366, 367, 515, 516, 517, 498, 368, 369, 370, 371, 372, 373, 374, 112] (by decide +kernel) (by decide +kernel) w h).1
set_option maxRecDepth 20000 in
theorem wsL_law0_r9_in : ∀ w ∈ wsL_law0_r9, w ∈ lw_tbl := fun w h => (goodIn_r wsL_law0_r9 [114, 0, 115, 375, 376, 377, 378, 380, 381, 382, 383, 384, 385, 386, 387, 388, 389, 390, 391, 393, 394, 395, 396, 519] (by decide +kernel) (by decide +kernel) w h).1
set_option maxRecDepth 20000 in
theorem wsL_law0_r10_in : ∀ w ∈ wsL_law0_r10, w ∈ lw_tbl := fun w h => (goodIn_r wsL_law0_r10 [520, 521, 522, 523, 524, 525, 526, 527, 397, 398, 399, 400, 401, 402, 403, 405, 407, 5, 408, 409, 410, 411, 412, 413] (by decide +kernel) (by decide +kernel) w h).1
set_option maxRecDepth 20000 in
theorem wsL_law0_r11_in : ∀ w ∈ wsL_law0_r11, w ∈ lw_tbl := by
  show ∀ w ∈ ([Cond.methodLink RX3 159 yX1_load, Cond.instanceMethod yX1_load, Cond.selects RX1 yX1_load yX1_load, Cond.code yX1_load cX1_load 5 none, Cond.constantDouble RX1 56 (4612811918334230528), Cond.methodLink RX3 162 yX3_beginAlarms, Cond.instanceMethod yX3_beginAlarms, Cond.selects RX3 yX3_beginAlarms yX3_beginAlarms, Cond.code yX3_beginAlarms cX3_beginAlarms 4 (some .int), Cond.methodLink RX3 166 yX0_begin, Cond.instanceMethod yX0_begin, Cond.selects RX0 yX0_begin yX0_begin, Cond.code yX0_begin cX0_begin 5 (some .boolean), Cond.methodLink RX3 127 yX1_chargeAt, Cond.instanceMethod yX1_chargeAt, Cond.selects RX1 yX1_chargeAt yX1_chargeAt, Cond.code yX1_chargeAt cX1_chargeAt 2 (some .double), Cond.methodLink RL 147 yL_isRead, Cond.static yL_isRead] ++ (Cond.code yL_isRead cL_isRead 14 (some .boolean)) :: [Cond.methodLink RL 45 yX3_lampOf, Cond.instanceMethod yX3_lampOf, Cond.selects RX3 yX3_lampOf yX3_lampOf, Cond.code yX3_lampOf cX3_lampOf 2 (some .int)] : List Cond), w ∈ lw_tbl
  exact List.forall_mem_append.mpr ⟨(fun w h => (goodIn_r [Cond.methodLink RX3 159 yX1_load, Cond.instanceMethod yX1_load, Cond.selects RX1 yX1_load yX1_load, Cond.code yX1_load cX1_load 5 none, Cond.constantDouble RX1 56 (4612811918334230528), Cond.methodLink RX3 162 yX3_beginAlarms, Cond.instanceMethod yX3_beginAlarms, Cond.selects RX3 yX3_beginAlarms yX3_beginAlarms, Cond.code yX3_beginAlarms cX3_beginAlarms 4 (some .int), Cond.methodLink RX3 166 yX0_begin, Cond.instanceMethod yX0_begin, Cond.selects RX0 yX0_begin yX0_begin, Cond.code yX0_begin cX0_begin 5 (some .boolean), Cond.methodLink RX3 127 yX1_chargeAt, Cond.instanceMethod yX1_chargeAt, Cond.selects RX1 yX1_chargeAt yX1_chargeAt, Cond.code yX1_chargeAt cX1_chargeAt 2 (some .double), Cond.methodLink RL 147 yL_isRead, Cond.static yL_isRead] [414, 415, 416, 417, 418, 419, 421, 6, 422, 423, 424, 425, 426, 188, 189, 190, 191, 445, 446] (by decide +kernel) (by decide +kernel) w h).1), List.forall_mem_cons.mpr ⟨List.mem_of_getElem? (i := 447) rfl, (fun w h => (goodIn_r [Cond.methodLink RL 45 yX3_lampOf, Cond.instanceMethod yX3_lampOf, Cond.selects RX3 yX3_lampOf yX3_lampOf, Cond.code yX3_lampOf cX3_lampOf 2 (some .int)] [448, 449, 450, 451] (by decide +kernel) (by decide +kernel) w h).1)⟩⟩
set_option maxRecDepth 20000 in
theorem wsL_law0_r12_in : ∀ w ∈ wsL_law0_r12, w ∈ lw_tbl := fun w h => (goodIn_r wsL_law0_r12 [452, 453, 454, 455, 456, 457, 458, 459, 460, 461, 462, 463, 464, 466, 7, 467, 468, 469, 470, 471, 472, 473, 474, 475] (by decide +kernel) (by decide +kernel) w h).1
set_option maxRecDepth 20000 in
theorem wsL_law0_r13_in : ∀ w ∈ wsL_law0_r13, w ∈ lw_tbl := fun w h => (goodIn_r wsL_law0_r13 [476, 478, 8, 479, 480, 482, 9, 483, 484, 485, 486, 487, 488, 489, 490, 491, 492, 493, 494, 495, 496, 497, 503, 441] (by decide +kernel) (by decide +kernel) w h).1
set_option maxRecDepth 20000 in
theorem wsL_law0_r14_in : ∀ w ∈ wsL_law0_r14, w ∈ lw_tbl := fun w h => (goodIn_r wsL_law0_r14 [442, 443, 444, 200, 201, 202, 203, 204, 205, 206, 207, 108, 109, 110, 111, 192, 193, 194, 195, 196, 197, 198, 199, 427] (by decide +kernel) (by decide +kernel) w h).1
set_option maxRecDepth 20000 in
theorem wsL_law0_r15_in : ∀ w ∈ wsL_law0_r15, w ∈ lw_tbl := fun w h => (goodIn_r wsL_law0_r15 [428, 429, 430, 431, 432, 433, 434, 435, 436, 437, 499, 500, 501, 502, 208, 209, 210, 211, 220, 221, 222, 223, 228, 229] (by decide +kernel) (by decide +kernel) w h).1
set_option maxRecDepth 20000 in
theorem wsL_law0_r16_in : ∀ w ∈ wsL_law0_r16, w ∈ lw_tbl := fun w h => (goodIn_r wsL_law0_r16 [230, 231, 232, 233, 234, 235, 236, 438, 439, 440] (by decide +kernel) (by decide +kernel) w h).1
set_option maxRecDepth 20000 in
theorem wsX00_in : ∀ w ∈ wsX00, w ∈ lw_tbl := by decide +kernel
set_option maxRecDepth 20000 in
theorem wsX10_in : ∀ w ∈ wsX10, w ∈ lw_tbl := by decide +kernel
set_option maxRecDepth 20000 in
theorem wsX20_in : ∀ w ∈ wsX20, w ∈ lw_tbl := by decide +kernel
set_option maxRecDepth 20000 in
theorem wsX30_in : ∀ w ∈ wsX30, w ∈ lw_tbl := by decide +kernel
theorem wsL_law_in0 : ∀ w ∈ wsL_law0, w ∈ lw_tbl := (List.forall_mem_append.mpr ⟨(List.forall_mem_append.mpr ⟨(List.forall_mem_append.mpr ⟨(List.forall_mem_append.mpr ⟨(List.forall_mem_append.mpr ⟨(List.forall_mem_append.mpr ⟨wsL_law0_r1_in, (List.forall_mem_append.mpr ⟨wsL_law0_r2_in, (List.forall_mem_append.mpr ⟨wsL_law0_r3_in, (List.forall_mem_append.mpr ⟨wsL_law0_r4_in, (List.forall_mem_append.mpr ⟨wsL_law0_r5_in, (List.forall_mem_append.mpr ⟨wsL_law0_r6_in, (List.forall_mem_append.mpr ⟨wsL_law0_r7_in, (List.forall_mem_append.mpr ⟨wsL_law0_r8_in, (List.forall_mem_append.mpr ⟨wsL_law0_r9_in, (List.forall_mem_append.mpr ⟨wsL_law0_r10_in, (List.forall_mem_append.mpr ⟨wsL_law0_r11_in, (List.forall_mem_append.mpr ⟨wsL_law0_r12_in, (List.forall_mem_append.mpr ⟨wsL_law0_r13_in, (List.forall_mem_append.mpr ⟨wsL_law0_r14_in, (List.forall_mem_append.mpr ⟨wsL_law0_r15_in, wsL_law0_r16_in⟩)⟩)⟩)⟩)⟩)⟩)⟩)⟩)⟩)⟩)⟩)⟩)⟩)⟩)⟩), wsX30_in⟩), wsX10_in⟩), wsX20_in⟩), wsX00_in⟩), (fun w h => absurd h List.not_mem_nil)⟩)
theorem wsL_law_x0 : ∀ w ∈ (vx_atS RX3 46 "java/lang/IllegalStateException" ["java/lang/RuntimeException", "java/lang/Exception"]).filter goodWord, w ∈ lw_tbl := by decide +kernel
theorem wsL_law_x1 : ∀ w ∈ (vx_atS RX3 117 "java/lang/IllegalArgumentException" ["java/lang/RuntimeException", "java/lang/Exception"]).filter goodWord, w ∈ lw_tbl := by decide +kernel
theorem wsL_law_x2 : ∀ w ∈ (vx_atS RX3 153 "java/lang/IndexOutOfBoundsException" ["java/lang/RuntimeException", "java/lang/Exception"]).filter goodWord, w ∈ lw_tbl := by decide +kernel
theorem wsL_law_in : ∀ w ∈ wsL_law, w ∈ lw_tbl := fun w h => (List.mem_append.mp h).elim (fun h => (List.mem_append.mp h).elim (fun h => (List.mem_append.mp h).elim (fun h => wsL_law_in0 w h) (fun h => wsL_law_x0 w h)) (fun h => wsL_law_x1 w h)) (fun h => wsL_law_x2 w h)
theorem inlX0 : ∀ w ∈ wsX00, w ∈ wsL_law := fun _ h => List.mem_append_left _ (List.mem_append_left _ (List.mem_append_left _ (List.mem_append_left _ (List.mem_append_right _ h))))
theorem inX0 : ∀ w ∈ wsX00, w ∈ lw_tbl := fun w h => wsL_law_in w (inlX0 w h)
theorem inlX1 : ∀ w ∈ wsX10, w ∈ wsL_law := fun _ h => List.mem_append_left _ (List.mem_append_left _ (List.mem_append_left _ (List.mem_append_left _ (List.mem_append_left _ (List.mem_append_left _ (List.mem_append_right _ h))))))
theorem inX1 : ∀ w ∈ wsX10, w ∈ lw_tbl := fun w h => wsL_law_in w (inlX1 w h)
theorem inlX2 : ∀ w ∈ wsX20, w ∈ wsL_law := fun _ h => List.mem_append_left _ (List.mem_append_left _ (List.mem_append_left _ (List.mem_append_left _ (List.mem_append_left _ (List.mem_append_right _ h)))))
theorem inX2 : ∀ w ∈ wsX20, w ∈ lw_tbl := fun w h => wsL_law_in w (inlX2 w h)
theorem inlX3 : ∀ w ∈ wsX30, w ∈ wsL_law := fun _ h => List.mem_append_left _ (List.mem_append_left _ (List.mem_append_left _ (List.mem_append_left _ (List.mem_append_left _ (List.mem_append_left _ (List.mem_append_left _ (List.mem_append_right _ h)))))))
theorem inX3 : ∀ w ∈ wsX30, w ∈ lw_tbl := fun w h => wsL_law_in w (inlX3 w h)
abbrev vwCl : List vw_C := [(RX0, TX0, 1), (RX1, TX1, 7), (RX2, TX2, 6), (RX3, TX3, 4)]
theorem goodIn_kons {big ws : List Cond} {x : MethodName} {b : ByteArray} {n : Nat} {r : Option FieldType} (h1 : Cond.code x b n r ∈ big) (h2 : GoodIn big ws) : GoodIn big (Cond.code x b n r :: ws) := fun w hw => (List.mem_cons.mp hw).elim (fun e => by subst e; exact ⟨h1, Or.inl rfl⟩) (h2 w)
end
section
theorem dX0_init_0 : decode cX0_init 0 = .ok (.aload_n 0, 1) := by decide +kernel
theorem dX0_init_1 : decode cX0_init 1 = .ok (.invokespecial 3, 3) := by decide +kernel
theorem dX0_init_4 : decode cX0_init 4 = .ok (.aload_n 0, 1) := by decide +kernel
theorem dX0_init_5 : decode cX0_init 5 = .ok (.bipush 60, 2) := by decide +kernel
theorem dX0_init_7 : decode cX0_init 7 = .ok (.newarray .int, 2) := by decide +kernel
theorem dX0_init_9 : decode cX0_init 9 = .ok (.putfield 9, 3) := by decide +kernel
theorem dX0_init_12 : decode cX0_init 12 = .ok (.return_, 1) := by decide +kernel
set_option maxRecDepth 20000 in
theorem ggX0_lastingAt_X0_countAhead : GoodIn wsX0_lastingAt wsX0_countAhead := goodIn_r _ [6, 1, 7, 8, 9, 5, 10, 11] (by decide +kernel) (by decide +kernel)
set_option maxRecDepth 20000 in
theorem gX0_lastingAt_X0_countAhead : GoodIn wsX0_lastingAt (wsV RX0 15 RX0 yX0_countAhead wsX0_countAhead) := goodIn_app (goodIn_of _ (by decide +kernel)) ggX0_lastingAt_X0_countAhead
theorem dX0_lastingAt_0 : decode cX0_lastingAt 0 = .ok (.iconst 0, 1) := by decide +kernel
theorem dX0_lastingAt_1 : decode cX0_lastingAt 1 = .ok (.istore_n 2, 1) := by decide +kernel
theorem dX0_lastingAt_2 : decode cX0_lastingAt 2 = .ok (.iload_n 2, 1) := by decide +kernel
theorem dX0_lastingAt_3 : decode cX0_lastingAt 3 = .ok (.aload_n 0, 1) := by decide +kernel
theorem dX0_lastingAt_4 : decode cX0_lastingAt 4 = .ok (.getfield 9, 3) := by decide +kernel
theorem dX0_lastingAt_7 : decode cX0_lastingAt 7 = .ok (.arraylength, 1) := by decide +kernel
theorem dX0_lastingAt_8 : decode cX0_lastingAt 8 = .ok (.if_icmp .ge 29, 3) := by decide +kernel
theorem dX0_lastingAt_11 : decode cX0_lastingAt 11 = .ok (.aload_n 0, 1) := by decide +kernel
theorem dX0_lastingAt_12 : decode cX0_lastingAt 12 = .ok (.getfield 9, 3) := by decide +kernel
theorem dX0_lastingAt_15 : decode cX0_lastingAt 15 = .ok (.iload_n 2, 1) := by decide +kernel
theorem dX0_lastingAt_16 : decode cX0_lastingAt 16 = .ok (.iaload, 1) := by decide +kernel
theorem dX0_lastingAt_17 : decode cX0_lastingAt 17 = .ok (.ifCond .eq 14, 3) := by decide +kernel
theorem dX0_lastingAt_20 : decode cX0_lastingAt 20 = .ok (.aload_n 0, 1) := by decide +kernel
theorem dX0_lastingAt_21 : decode cX0_lastingAt 21 = .ok (.iload_n 2, 1) := by decide +kernel
theorem dX0_lastingAt_22 : decode cX0_lastingAt 22 = .ok (.invokevirtual 15, 3) := by decide +kernel
theorem dX0_lastingAt_25 : decode cX0_lastingAt 25 = .ok (.iload_n 1, 1) := by decide +kernel
theorem dX0_lastingAt_26 : decode cX0_lastingAt 26 = .ok (.if_icmp .ne 5, 3) := by decide +kernel
theorem dX0_lastingAt_29 : decode cX0_lastingAt 29 = .ok (.iload_n 2, 1) := by decide +kernel
theorem dX0_lastingAt_30 : decode cX0_lastingAt 30 = .ok (.ireturn, 1) := by decide +kernel
theorem dX0_lastingAt_31 : decode cX0_lastingAt 31 = .ok (.iinc 2 1, 3) := by decide +kernel
theorem dX0_lastingAt_34 : decode cX0_lastingAt 34 = .ok (.goto (-32), 3) := by decide +kernel
theorem dX0_lastingAt_37 : decode cX0_lastingAt 37 = .ok (.iconst (-1), 1) := by decide +kernel
theorem dX0_lastingAt_38 : decode cX0_lastingAt 38 = .ok (.ireturn, 1) := by decide +kernel
set_option maxRecDepth 20000 in
theorem ggX0_countAhead_X0_isAhead : GoodIn wsX0_countAhead wsX0_isAhead := goodIn_r _ [6, 1, 7] (by decide +kernel) (by decide +kernel)
set_option maxRecDepth 20000 in
theorem gX0_countAhead_X0_isAhead : GoodIn wsX0_countAhead (wsV RX0 19 RX0 yX0_isAhead wsX0_isAhead) := goodIn_app (goodIn_of _ (by decide +kernel)) ggX0_countAhead_X0_isAhead
theorem dX0_countAhead_0 : decode cX0_countAhead 0 = .ok (.iconst 0, 1) := by decide +kernel
theorem dX0_countAhead_1 : decode cX0_countAhead 1 = .ok (.istore_n 2, 1) := by decide +kernel
theorem dX0_countAhead_2 : decode cX0_countAhead 2 = .ok (.iconst 0, 1) := by decide +kernel
theorem dX0_countAhead_3 : decode cX0_countAhead 3 = .ok (.istore_n 3, 1) := by decide +kernel
theorem dX0_countAhead_4 : decode cX0_countAhead 4 = .ok (.iload_n 3, 1) := by decide +kernel
theorem dX0_countAhead_5 : decode cX0_countAhead 5 = .ok (.aload_n 0, 1) := by decide +kernel
theorem dX0_countAhead_6 : decode cX0_countAhead 6 = .ok (.getfield 9, 3) := by decide +kernel
theorem dX0_countAhead_9 : decode cX0_countAhead 9 = .ok (.arraylength, 1) := by decide +kernel
theorem dX0_countAhead_10 : decode cX0_countAhead 10 = .ok (.if_icmp .ge 30, 3) := by decide +kernel
theorem dX0_countAhead_13 : decode cX0_countAhead 13 = .ok (.aload_n 0, 1) := by decide +kernel
theorem dX0_countAhead_14 : decode cX0_countAhead 14 = .ok (.getfield 9, 3) := by decide +kernel
theorem dX0_countAhead_17 : decode cX0_countAhead 17 = .ok (.iload_n 3, 1) := by decide +kernel
theorem dX0_countAhead_18 : decode cX0_countAhead 18 = .ok (.iaload, 1) := by decide +kernel
theorem dX0_countAhead_19 : decode cX0_countAhead 19 = .ok (.ifCond .eq 15, 3) := by decide +kernel
theorem dX0_countAhead_22 : decode cX0_countAhead 22 = .ok (.aload_n 0, 1) := by decide +kernel
theorem dX0_countAhead_23 : decode cX0_countAhead 23 = .ok (.iload_n 3, 1) := by decide +kernel
theorem dX0_countAhead_24 : decode cX0_countAhead 24 = .ok (.iload_n 1, 1) := by decide +kernel
theorem dX0_countAhead_25 : decode cX0_countAhead 25 = .ok (.invokevirtual 19, 3) := by decide +kernel
theorem dX0_countAhead_28 : decode cX0_countAhead 28 = .ok (.ifCond .eq 6, 3) := by decide +kernel
theorem dX0_countAhead_31 : decode cX0_countAhead 31 = .ok (.iinc 2 1, 3) := by decide +kernel
theorem dX0_countAhead_34 : decode cX0_countAhead 34 = .ok (.iinc 3 1, 3) := by decide +kernel
theorem dX0_countAhead_37 : decode cX0_countAhead 37 = .ok (.goto (-33), 3) := by decide +kernel
theorem dX0_countAhead_40 : decode cX0_countAhead 40 = .ok (.iload_n 2, 1) := by decide +kernel
theorem dX0_countAhead_41 : decode cX0_countAhead 41 = .ok (.ireturn, 1) := by decide +kernel
theorem dX0_isAhead_0 : decode cX0_isAhead 0 = .ok (.aload_n 0, 1) := by decide +kernel
theorem dX0_isAhead_1 : decode cX0_isAhead 1 = .ok (.getfield 9, 3) := by decide +kernel
theorem dX0_isAhead_4 : decode cX0_isAhead 4 = .ok (.iload_n 1, 1) := by decide +kernel
theorem dX0_isAhead_5 : decode cX0_isAhead 5 = .ok (.iaload, 1) := by decide +kernel
theorem dX0_isAhead_6 : decode cX0_isAhead 6 = .ok (.aload_n 0, 1) := by decide +kernel
theorem dX0_isAhead_7 : decode cX0_isAhead 7 = .ok (.getfield 9, 3) := by decide +kernel
theorem dX0_isAhead_10 : decode cX0_isAhead 10 = .ok (.iload_n 2, 1) := by decide +kernel
theorem dX0_isAhead_11 : decode cX0_isAhead 11 = .ok (.iaload, 1) := by decide +kernel
theorem dX0_isAhead_12 : decode cX0_isAhead 12 = .ok (.if_icmp .lt 23, 3) := by decide +kernel
theorem dX0_isAhead_15 : decode cX0_isAhead 15 = .ok (.aload_n 0, 1) := by decide +kernel
theorem dX0_isAhead_16 : decode cX0_isAhead 16 = .ok (.getfield 9, 3) := by decide +kernel
theorem dX0_isAhead_19 : decode cX0_isAhead 19 = .ok (.iload_n 1, 1) := by decide +kernel
theorem dX0_isAhead_20 : decode cX0_isAhead 20 = .ok (.iaload, 1) := by decide +kernel
theorem dX0_isAhead_21 : decode cX0_isAhead 21 = .ok (.aload_n 0, 1) := by decide +kernel
theorem dX0_isAhead_22 : decode cX0_isAhead 22 = .ok (.getfield 9, 3) := by decide +kernel
theorem dX0_isAhead_25 : decode cX0_isAhead 25 = .ok (.iload_n 2, 1) := by decide +kernel
theorem dX0_isAhead_26 : decode cX0_isAhead 26 = .ok (.iaload, 1) := by decide +kernel
theorem dX0_isAhead_27 : decode cX0_isAhead 27 = .ok (.if_icmp .ne 12, 3) := by decide +kernel
theorem dX0_isAhead_30 : decode cX0_isAhead 30 = .ok (.iload_n 1, 1) := by decide +kernel
theorem dX0_isAhead_31 : decode cX0_isAhead 31 = .ok (.iload_n 2, 1) := by decide +kernel
theorem dX0_isAhead_32 : decode cX0_isAhead 32 = .ok (.if_icmp .ge 7, 3) := by decide +kernel
theorem dX0_isAhead_35 : decode cX0_isAhead 35 = .ok (.iconst 1, 1) := by decide +kernel
theorem dX0_isAhead_36 : decode cX0_isAhead 36 = .ok (.goto 4, 3) := by decide +kernel
theorem dX0_isAhead_39 : decode cX0_isAhead 39 = .ok (.iconst 0, 1) := by decide +kernel
theorem dX0_isAhead_40 : decode cX0_isAhead 40 = .ok (.ireturn, 1) := by decide +kernel
theorem dX1_init_0 : decode cX1_init 0 = .ok (.aload_n 0, 1) := by decide +kernel
theorem dX1_init_1 : decode cX1_init 1 = .ok (.invokespecial 3, 3) := by decide +kernel
theorem dX1_init_4 : decode cX1_init 4 = .ok (.aload_n 0, 1) := by decide +kernel
theorem dX1_init_5 : decode cX1_init 5 = .ok (.bipush 40, 2) := by decide +kernel
theorem dX1_init_7 : decode cX1_init 7 = .ok (.newarray .int, 2) := by decide +kernel
theorem dX1_init_9 : decode cX1_init 9 = .ok (.putfield 9, 3) := by decide +kernel
theorem dX1_init_12 : decode cX1_init 12 = .ok (.aload_n 0, 1) := by decide +kernel
theorem dX1_init_13 : decode cX1_init 13 = .ok (.bipush 40, 2) := by decide +kernel
theorem dX1_init_15 : decode cX1_init 15 = .ok (.newarray .int, 2) := by decide +kernel
theorem dX1_init_17 : decode cX1_init 17 = .ok (.putfield 15, 3) := by decide +kernel
theorem dX1_init_20 : decode cX1_init 20 = .ok (.aload_n 0, 1) := by decide +kernel
theorem dX1_init_21 : decode cX1_init 21 = .ok (.bipush 40, 2) := by decide +kernel
theorem dX1_init_23 : decode cX1_init 23 = .ok (.newarray .int, 2) := by decide +kernel
theorem dX1_init_25 : decode cX1_init 25 = .ok (.putfield 18, 3) := by decide +kernel
theorem dX1_init_28 : decode cX1_init 28 = .ok (.aload_n 0, 1) := by decide +kernel
theorem dX1_init_29 : decode cX1_init 29 = .ok (.bipush 40, 2) := by decide +kernel
theorem dX1_init_31 : decode cX1_init 31 = .ok (.newarray .boolean, 2) := by decide +kernel
theorem dX1_init_33 : decode cX1_init 33 = .ok (.putfield 21, 3) := by decide +kernel
theorem dX1_init_36 : decode cX1_init 36 = .ok (.aload_n 0, 1) := by decide +kernel
theorem dX1_init_37 : decode cX1_init 37 = .ok (.bipush 40, 2) := by decide +kernel
theorem dX1_init_39 : decode cX1_init 39 = .ok (.newarray .double, 2) := by decide +kernel
theorem dX1_init_41 : decode cX1_init 41 = .ok (.putfield 25, 3) := by decide +kernel
theorem dX1_init_44 : decode cX1_init 44 = .ok (.aload_n 0, 1) := by decide +kernel
theorem dX1_init_45 : decode cX1_init 45 = .ok (.bipush 40, 2) := by decide +kernel
theorem dX1_init_47 : decode cX1_init 47 = .ok (.newarray .double, 2) := by decide +kernel
theorem dX1_init_49 : decode cX1_init 49 = .ok (.putfield 29, 3) := by decide +kernel
theorem dX1_init_52 : decode cX1_init 52 = .ok (.aload_n 0, 1) := by decide +kernel
theorem dX1_init_53 : decode cX1_init 53 = .ok (.iconst 0, 1) := by decide +kernel
theorem dX1_init_54 : decode cX1_init 54 = .ok (.putfield 32, 3) := by decide +kernel
theorem dX1_init_57 : decode cX1_init 57 = .ok (.return_, 1) := by decide +kernel
theorem dX1_size_0 : decode cX1_size 0 = .ok (.aload_n 0, 1) := by decide +kernel
theorem dX1_size_1 : decode cX1_size 1 = .ok (.getfield 32, 3) := by decide +kernel
theorem dX1_size_4 : decode cX1_size 4 = .ok (.ireturn, 1) := by decide +kernel
theorem dX1_kindAt_0 : decode cX1_kindAt 0 = .ok (.aload_n 0, 1) := by decide +kernel
theorem dX1_kindAt_1 : decode cX1_kindAt 1 = .ok (.getfield 9, 3) := by decide +kernel
theorem dX1_kindAt_4 : decode cX1_kindAt 4 = .ok (.iload_n 1, 1) := by decide +kernel
theorem dX1_kindAt_5 : decode cX1_kindAt 5 = .ok (.iaload, 1) := by decide +kernel
theorem dX1_kindAt_6 : decode cX1_kindAt 6 = .ok (.ireturn, 1) := by decide +kernel
theorem dX1_placeAt_0 : decode cX1_placeAt 0 = .ok (.aload_n 0, 1) := by decide +kernel
theorem dX1_placeAt_1 : decode cX1_placeAt 1 = .ok (.getfield 15, 3) := by decide +kernel
theorem dX1_placeAt_4 : decode cX1_placeAt 4 = .ok (.iload_n 1, 1) := by decide +kernel
theorem dX1_placeAt_5 : decode cX1_placeAt 5 = .ok (.iaload, 1) := by decide +kernel
theorem dX1_placeAt_6 : decode cX1_placeAt 6 = .ok (.ireturn, 1) := by decide +kernel
theorem dX1_turnsAt_0 : decode cX1_turnsAt 0 = .ok (.aload_n 0, 1) := by decide +kernel
theorem dX1_turnsAt_1 : decode cX1_turnsAt 1 = .ok (.getfield 18, 3) := by decide +kernel
theorem dX1_turnsAt_4 : decode cX1_turnsAt 4 = .ok (.iload_n 1, 1) := by decide +kernel
theorem dX1_turnsAt_5 : decode cX1_turnsAt 5 = .ok (.iaload, 1) := by decide +kernel
theorem dX1_turnsAt_6 : decode cX1_turnsAt 6 = .ok (.ireturn, 1) := by decide +kernel
theorem dX1_chargeAt_0 : decode cX1_chargeAt 0 = .ok (.aload_n 0, 1) := by decide +kernel
theorem dX1_chargeAt_1 : decode cX1_chargeAt 1 = .ok (.getfield 25, 3) := by decide +kernel
theorem dX1_chargeAt_4 : decode cX1_chargeAt 4 = .ok (.iload_n 1, 1) := by decide +kernel
theorem dX1_chargeAt_5 : decode cX1_chargeAt 5 = .ok (.daload, 1) := by decide +kernel
theorem dX1_chargeAt_6 : decode cX1_chargeAt 6 = .ok (.dreturn, 1) := by decide +kernel
theorem dX1_capacityAt_0 : decode cX1_capacityAt 0 = .ok (.aload_n 0, 1) := by decide +kernel
theorem dX1_capacityAt_1 : decode cX1_capacityAt 1 = .ok (.getfield 29, 3) := by decide +kernel
theorem dX1_capacityAt_4 : decode cX1_capacityAt 4 = .ok (.iload_n 1, 1) := by decide +kernel
theorem dX1_capacityAt_5 : decode cX1_capacityAt 5 = .ok (.daload, 1) := by decide +kernel
theorem dX1_capacityAt_6 : decode cX1_capacityAt 6 = .ok (.dreturn, 1) := by decide +kernel
set_option maxRecDepth 20000 in
theorem ggX1_hangNew_X1_newCapacity : GoodIn wsX1_hangNew wsX1_newCapacity := goodIn_r _ [9, 10, 11, 12] (by decide +kernel) (by decide +kernel)
set_option maxRecDepth 20000 in
theorem gX1_hangNew_X1_newCapacity : GoodIn wsX1_hangNew (va_wsS RX1 36 yX1_newCapacity wsX1_newCapacity) := goodIn_app (goodIn_of _ (by decide +kernel)) ggX1_hangNew_X1_newCapacity
theorem dX1_hangNew_0 : decode cX1_hangNew 0 = .ok (.aload_n 0, 1) := by decide +kernel
theorem dX1_hangNew_1 : decode cX1_hangNew 1 = .ok (.getfield 32, 3) := by decide +kernel
theorem dX1_hangNew_4 : decode cX1_hangNew 4 = .ok (.istore_n 2, 1) := by decide +kernel
theorem dX1_hangNew_5 : decode cX1_hangNew 5 = .ok (.aload_n 0, 1) := by decide +kernel
theorem dX1_hangNew_6 : decode cX1_hangNew 6 = .ok (.getfield 9, 3) := by decide +kernel
theorem dX1_hangNew_9 : decode cX1_hangNew 9 = .ok (.iload_n 2, 1) := by decide +kernel
theorem dX1_hangNew_10 : decode cX1_hangNew 10 = .ok (.iload_n 1, 1) := by decide +kernel
theorem dX1_hangNew_11 : decode cX1_hangNew 11 = .ok (.iastore, 1) := by decide +kernel
theorem dX1_hangNew_12 : decode cX1_hangNew 12 = .ok (.aload_n 0, 1) := by decide +kernel
theorem dX1_hangNew_13 : decode cX1_hangNew 13 = .ok (.getfield 15, 3) := by decide +kernel
theorem dX1_hangNew_16 : decode cX1_hangNew 16 = .ok (.iload_n 2, 1) := by decide +kernel
theorem dX1_hangNew_17 : decode cX1_hangNew 17 = .ok (.iconst 0, 1) := by decide +kernel
theorem dX1_hangNew_18 : decode cX1_hangNew 18 = .ok (.iastore, 1) := by decide +kernel
theorem dX1_hangNew_19 : decode cX1_hangNew 19 = .ok (.aload_n 0, 1) := by decide +kernel
theorem dX1_hangNew_20 : decode cX1_hangNew 20 = .ok (.getfield 29, 3) := by decide +kernel
theorem dX1_hangNew_23 : decode cX1_hangNew 23 = .ok (.iload_n 2, 1) := by decide +kernel
theorem dX1_hangNew_24 : decode cX1_hangNew 24 = .ok (.iload_n 1, 1) := by decide +kernel
theorem dX1_hangNew_25 : decode cX1_hangNew 25 = .ok (.invokestatic 36, 3) := by decide +kernel
theorem dX1_hangNew_28 : decode cX1_hangNew 28 = .ok (.dastore, 1) := by decide +kernel
theorem dX1_hangNew_29 : decode cX1_hangNew 29 = .ok (.aload_n 0, 1) := by decide +kernel
theorem dX1_hangNew_30 : decode cX1_hangNew 30 = .ok (.getfield 25, 3) := by decide +kernel
theorem dX1_hangNew_33 : decode cX1_hangNew 33 = .ok (.iload_n 2, 1) := by decide +kernel
theorem dX1_hangNew_34 : decode cX1_hangNew 34 = .ok (.aload_n 0, 1) := by decide +kernel
theorem dX1_hangNew_35 : decode cX1_hangNew 35 = .ok (.getfield 29, 3) := by decide +kernel
theorem dX1_hangNew_38 : decode cX1_hangNew 38 = .ok (.iload_n 2, 1) := by decide +kernel
theorem dX1_hangNew_39 : decode cX1_hangNew 39 = .ok (.daload, 1) := by decide +kernel
theorem dX1_hangNew_40 : decode cX1_hangNew 40 = .ok (.dastore, 1) := by decide +kernel
theorem dX1_hangNew_41 : decode cX1_hangNew 41 = .ok (.aload_n 0, 1) := by decide +kernel
theorem dX1_hangNew_42 : decode cX1_hangNew 42 = .ok (.dup, 1) := by decide +kernel
theorem dX1_hangNew_43 : decode cX1_hangNew 43 = .ok (.getfield 32, 3) := by decide +kernel
theorem dX1_hangNew_46 : decode cX1_hangNew 46 = .ok (.iconst 1, 1) := by decide +kernel
theorem dX1_hangNew_47 : decode cX1_hangNew 47 = .ok (.iadd, 1) := by decide +kernel
theorem dX1_hangNew_48 : decode cX1_hangNew 48 = .ok (.putfield 32, 3) := by decide +kernel
theorem dX1_hangNew_51 : decode cX1_hangNew 51 = .ok (.iload_n 2, 1) := by decide +kernel
theorem dX1_hangNew_52 : decode cX1_hangNew 52 = .ok (.ireturn, 1) := by decide +kernel
set_option maxRecDepth 20000 in
theorem ggX1_countIssuable_X1_isIssuable : GoodIn wsX1_countIssuable wsX1_isIssuable := goodIn_r _ [6, 7, 8, 9, 10, 11, 12, 13, 14, 15, 16, 17] (by decide +kernel) (by decide +kernel)
set_option maxRecDepth 20000 in
theorem gX1_countIssuable_X1_isIssuable : GoodIn wsX1_countIssuable (wsV RX1 48 RX1 yX1_isIssuable wsX1_isIssuable) := goodIn_app (goodIn_of _ (by decide +kernel)) ggX1_countIssuable_X1_isIssuable
theorem dX1_countIssuable_0 : decode cX1_countIssuable 0 = .ok (.iconst 0, 1) := by decide +kernel
theorem dX1_countIssuable_1 : decode cX1_countIssuable 1 = .ok (.istore_n 2, 1) := by decide +kernel
theorem dX1_countIssuable_2 : decode cX1_countIssuable 2 = .ok (.iconst 0, 1) := by decide +kernel
theorem dX1_countIssuable_3 : decode cX1_countIssuable 3 = .ok (.istore_n 3, 1) := by decide +kernel
theorem dX1_countIssuable_4 : decode cX1_countIssuable 4 = .ok (.iload_n 3, 1) := by decide +kernel
theorem dX1_countIssuable_5 : decode cX1_countIssuable 5 = .ok (.aload_n 0, 1) := by decide +kernel
theorem dX1_countIssuable_6 : decode cX1_countIssuable 6 = .ok (.getfield 32, 3) := by decide +kernel
theorem dX1_countIssuable_9 : decode cX1_countIssuable 9 = .ok (.if_icmp .ge 21, 3) := by decide +kernel
theorem dX1_countIssuable_12 : decode cX1_countIssuable 12 = .ok (.aload_n 0, 1) := by decide +kernel
theorem dX1_countIssuable_13 : decode cX1_countIssuable 13 = .ok (.iload_n 3, 1) := by decide +kernel
theorem dX1_countIssuable_14 : decode cX1_countIssuable 14 = .ok (.iload_n 1, 1) := by decide +kernel
theorem dX1_countIssuable_15 : decode cX1_countIssuable 15 = .ok (.invokevirtual 48, 3) := by decide +kernel
theorem dX1_countIssuable_18 : decode cX1_countIssuable 18 = .ok (.ifCond .eq 6, 3) := by decide +kernel
theorem dX1_countIssuable_21 : decode cX1_countIssuable 21 = .ok (.iinc 2 1, 3) := by decide +kernel
theorem dX1_countIssuable_24 : decode cX1_countIssuable 24 = .ok (.iinc 3 1, 3) := by decide +kernel
theorem dX1_countIssuable_27 : decode cX1_countIssuable 27 = .ok (.goto (-23), 3) := by decide +kernel
theorem dX1_countIssuable_30 : decode cX1_countIssuable 30 = .ok (.iload_n 2, 1) := by decide +kernel
theorem dX1_countIssuable_31 : decode cX1_countIssuable 31 = .ok (.ireturn, 1) := by decide +kernel
theorem dX1_isIssuable_0 : decode cX1_isIssuable 0 = .ok (.aload_n 0, 1) := by decide +kernel
theorem dX1_isIssuable_1 : decode cX1_isIssuable 1 = .ok (.getfield 9, 3) := by decide +kernel
theorem dX1_isIssuable_4 : decode cX1_isIssuable 4 = .ok (.iload_n 1, 1) := by decide +kernel
theorem dX1_isIssuable_5 : decode cX1_isIssuable 5 = .ok (.iaload, 1) := by decide +kernel
theorem dX1_isIssuable_6 : decode cX1_isIssuable 6 = .ok (.iload_n 2, 1) := by decide +kernel
theorem dX1_isIssuable_7 : decode cX1_isIssuable 7 = .ok (.if_icmp .ne 29, 3) := by decide +kernel
theorem dX1_isIssuable_10 : decode cX1_isIssuable 10 = .ok (.aload_n 0, 1) := by decide +kernel
theorem dX1_isIssuable_11 : decode cX1_isIssuable 11 = .ok (.getfield 15, 3) := by decide +kernel
theorem dX1_isIssuable_14 : decode cX1_isIssuable 14 = .ok (.iload_n 1, 1) := by decide +kernel
theorem dX1_isIssuable_15 : decode cX1_isIssuable 15 = .ok (.iaload, 1) := by decide +kernel
theorem dX1_isIssuable_16 : decode cX1_isIssuable 16 = .ok (.ifCond .ne 20, 3) := by decide +kernel
theorem dX1_isIssuable_19 : decode cX1_isIssuable 19 = .ok (.aload_n 0, 1) := by decide +kernel
theorem dX1_isIssuable_20 : decode cX1_isIssuable 20 = .ok (.getfield 25, 3) := by decide +kernel
theorem dX1_isIssuable_23 : decode cX1_isIssuable 23 = .ok (.iload_n 1, 1) := by decide +kernel
theorem dX1_isIssuable_24 : decode cX1_isIssuable 24 = .ok (.daload, 1) := by decide +kernel
theorem dX1_isIssuable_25 : decode cX1_isIssuable 25 = .ok (.ldc2_w 52, 3) := by decide +kernel
theorem dX1_isIssuable_28 : decode cX1_isIssuable 28 = .ok (.dcmp .l, 1) := by decide +kernel
theorem dX1_isIssuable_29 : decode cX1_isIssuable 29 = .ok (.ifCond .lt 7, 3) := by decide +kernel
theorem dX1_isIssuable_32 : decode cX1_isIssuable 32 = .ok (.iconst 1, 1) := by decide +kernel
theorem dX1_isIssuable_33 : decode cX1_isIssuable 33 = .ok (.goto 4, 3) := by decide +kernel
theorem dX1_isIssuable_36 : decode cX1_isIssuable 36 = .ok (.iconst 0, 1) := by decide +kernel
theorem dX1_isIssuable_37 : decode cX1_isIssuable 37 = .ok (.ireturn, 1) := by decide +kernel
theorem dX1_hundredthsOnRack_0 : decode cX1_hundredthsOnRack 0 = .ok (.dconst 0, 1) := by decide +kernel
theorem dX1_hundredthsOnRack_1 : decode cX1_hundredthsOnRack 1 = .ok (.dstore_n 1, 1) := by decide +kernel
theorem dX1_hundredthsOnRack_2 : decode cX1_hundredthsOnRack 2 = .ok (.dconst 0, 1) := by decide +kernel
theorem dX1_hundredthsOnRack_3 : decode cX1_hundredthsOnRack 3 = .ok (.dstore_n 3, 1) := by decide +kernel
theorem dX1_hundredthsOnRack_4 : decode cX1_hundredthsOnRack 4 = .ok (.iconst 0, 1) := by decide +kernel
theorem dX1_hundredthsOnRack_5 : decode cX1_hundredthsOnRack 5 = .ok (.istore 5, 2) := by decide +kernel
theorem dX1_hundredthsOnRack_7 : decode cX1_hundredthsOnRack 7 = .ok (.iload 5, 2) := by decide +kernel
theorem dX1_hundredthsOnRack_9 : decode cX1_hundredthsOnRack 9 = .ok (.aload_n 0, 1) := by decide +kernel
theorem dX1_hundredthsOnRack_10 : decode cX1_hundredthsOnRack 10 = .ok (.getfield 32, 3) := by decide +kernel
theorem dX1_hundredthsOnRack_13 : decode cX1_hundredthsOnRack 13 = .ok (.if_icmp .ge 39, 3) := by decide +kernel
theorem dX1_hundredthsOnRack_16 : decode cX1_hundredthsOnRack 16 = .ok (.aload_n 0, 1) := by decide +kernel
theorem dX1_hundredthsOnRack_17 : decode cX1_hundredthsOnRack 17 = .ok (.getfield 15, 3) := by decide +kernel
theorem dX1_hundredthsOnRack_20 : decode cX1_hundredthsOnRack 20 = .ok (.iload 5, 2) := by decide +kernel
theorem dX1_hundredthsOnRack_22 : decode cX1_hundredthsOnRack 22 = .ok (.iaload, 1) := by decide +kernel
theorem dX1_hundredthsOnRack_23 : decode cX1_hundredthsOnRack 23 = .ok (.ifCond .ne 23, 3) := by decide +kernel
theorem dX1_hundredthsOnRack_26 : decode cX1_hundredthsOnRack 26 = .ok (.dload_n 1, 1) := by decide +kernel
theorem dX1_hundredthsOnRack_27 : decode cX1_hundredthsOnRack 27 = .ok (.aload_n 0, 1) := by decide +kernel
theorem dX1_hundredthsOnRack_28 : decode cX1_hundredthsOnRack 28 = .ok (.getfield 25, 3) := by decide +kernel
theorem dX1_hundredthsOnRack_31 : decode cX1_hundredthsOnRack 31 = .ok (.iload 5, 2) := by decide +kernel
theorem dX1_hundredthsOnRack_33 : decode cX1_hundredthsOnRack 33 = .ok (.daload, 1) := by decide +kernel
theorem dX1_hundredthsOnRack_34 : decode cX1_hundredthsOnRack 34 = .ok (.dadd, 1) := by decide +kernel
theorem dX1_hundredthsOnRack_35 : decode cX1_hundredthsOnRack 35 = .ok (.dstore_n 1, 1) := by decide +kernel
theorem dX1_hundredthsOnRack_36 : decode cX1_hundredthsOnRack 36 = .ok (.dload_n 3, 1) := by decide +kernel
theorem dX1_hundredthsOnRack_37 : decode cX1_hundredthsOnRack 37 = .ok (.aload_n 0, 1) := by decide +kernel
theorem dX1_hundredthsOnRack_38 : decode cX1_hundredthsOnRack 38 = .ok (.getfield 29, 3) := by decide +kernel
theorem dX1_hundredthsOnRack_41 : decode cX1_hundredthsOnRack 41 = .ok (.iload 5, 2) := by decide +kernel
theorem dX1_hundredthsOnRack_43 : decode cX1_hundredthsOnRack 43 = .ok (.daload, 1) := by decide +kernel
theorem dX1_hundredthsOnRack_44 : decode cX1_hundredthsOnRack 44 = .ok (.dadd, 1) := by decide +kernel
theorem dX1_hundredthsOnRack_45 : decode cX1_hundredthsOnRack 45 = .ok (.dstore_n 3, 1) := by decide +kernel
theorem dX1_hundredthsOnRack_46 : decode cX1_hundredthsOnRack 46 = .ok (.iinc 5 1, 3) := by decide +kernel
theorem dX1_hundredthsOnRack_49 : decode cX1_hundredthsOnRack 49 = .ok (.goto (-42), 3) := by decide +kernel
theorem dX1_hundredthsOnRack_52 : decode cX1_hundredthsOnRack 52 = .ok (.dload_n 3, 1) := by decide +kernel
theorem dX1_hundredthsOnRack_53 : decode cX1_hundredthsOnRack 53 = .ok (.dconst 0, 1) := by decide +kernel
theorem dX1_hundredthsOnRack_54 : decode cX1_hundredthsOnRack 54 = .ok (.dcmp .l, 1) := by decide +kernel
theorem dX1_hundredthsOnRack_55 : decode cX1_hundredthsOnRack 55 = .ok (.ifCond .le 14, 3) := by decide +kernel
theorem dX1_hundredthsOnRack_58 : decode cX1_hundredthsOnRack 58 = .ok (.dload_n 1, 1) := by decide +kernel
theorem dX1_hundredthsOnRack_59 : decode cX1_hundredthsOnRack 59 = .ok (.dload_n 3, 1) := by decide +kernel
theorem dX1_hundredthsOnRack_60 : decode cX1_hundredthsOnRack 60 = .ok (.ddiv, 1) := by decide +kernel
theorem dX1_hundredthsOnRack_61 : decode cX1_hundredthsOnRack 61 = .ok (.ldc2_w 58, 3) := by decide +kernel
theorem dX1_hundredthsOnRack_64 : decode cX1_hundredthsOnRack 64 = .ok (.dmul, 1) := by decide +kernel
theorem dX1_hundredthsOnRack_65 : decode cX1_hundredthsOnRack 65 = .ok (.d2i, 1) := by decide +kernel
theorem dX1_hundredthsOnRack_66 : decode cX1_hundredthsOnRack 66 = .ok (.goto 4, 3) := by decide +kernel
theorem dX1_hundredthsOnRack_69 : decode cX1_hundredthsOnRack 69 = .ok (.iconst 0, 1) := by decide +kernel
theorem dX1_hundredthsOnRack_70 : decode cX1_hundredthsOnRack 70 = .ok (.ireturn, 1) := by decide +kernel
theorem dX1_newCapacity_0 : decode cX1_newCapacity 0 = .ok (.iload_n 0, 1) := by decide +kernel
theorem dX1_newCapacity_1 : decode cX1_newCapacity 1 = .ok (.ifCond .ne 9, 3) := by decide +kernel
theorem dX1_newCapacity_4 : decode cX1_newCapacity 4 = .ok (.ldc2_w 60, 3) := by decide +kernel
theorem dX1_newCapacity_7 : decode cX1_newCapacity 7 = .ok (.goto 17, 3) := by decide +kernel
theorem dX1_newCapacity_10 : decode cX1_newCapacity 10 = .ok (.iload_n 0, 1) := by decide +kernel
theorem dX1_newCapacity_11 : decode cX1_newCapacity 11 = .ok (.iconst 1, 1) := by decide +kernel
theorem dX1_newCapacity_12 : decode cX1_newCapacity 12 = .ok (.if_icmp .ne 9, 3) := by decide +kernel
theorem dX1_newCapacity_15 : decode cX1_newCapacity 15 = .ok (.ldc2_w 62, 3) := by decide +kernel
theorem dX1_newCapacity_18 : decode cX1_newCapacity 18 = .ok (.goto 6, 3) := by decide +kernel
theorem dX1_newCapacity_21 : decode cX1_newCapacity 21 = .ok (.ldc2_w 64, 3) := by decide +kernel
theorem dX1_newCapacity_24 : decode cX1_newCapacity 24 = .ok (.dreturn, 1) := by decide +kernel
theorem dX2_init_0 : decode cX2_init 0 = .ok (.aload_n 0, 1) := by decide +kernel
theorem dX2_init_1 : decode cX2_init 1 = .ok (.invokespecial 3, 3) := by decide +kernel
theorem dX2_init_4 : decode cX2_init 4 = .ok (.aload_n 0, 1) := by decide +kernel
theorem dX2_init_5 : decode cX2_init 5 = .ok (.bipush 30, 2) := by decide +kernel
theorem dX2_init_7 : decode cX2_init 7 = .ok (.newarray .int, 2) := by decide +kernel
theorem dX2_init_9 : decode cX2_init 9 = .ok (.putfield 9, 3) := by decide +kernel
theorem dX2_init_12 : decode cX2_init 12 = .ok (.aload_n 0, 1) := by decide +kernel
theorem dX2_init_13 : decode cX2_init 13 = .ok (.bipush 30, 2) := by decide +kernel
theorem dX2_init_15 : decode cX2_init 15 = .ok (.newarray .int, 2) := by decide +kernel
theorem dX2_init_17 : decode cX2_init 17 = .ok (.putfield 15, 3) := by decide +kernel
theorem dX2_init_20 : decode cX2_init 20 = .ok (.aload_n 0, 1) := by decide +kernel
theorem dX2_init_21 : decode cX2_init 21 = .ok (.bipush 30, 2) := by decide +kernel
theorem dX2_init_23 : decode cX2_init 23 = .ok (.newarray .int, 2) := by decide +kernel
theorem dX2_init_25 : decode cX2_init 25 = .ok (.putfield 18, 3) := by decide +kernel
theorem dX2_init_28 : decode cX2_init 28 = .ok (.aload_n 0, 1) := by decide +kernel
theorem dX2_init_29 : decode cX2_init 29 = .ok (.bipush 30, 2) := by decide +kernel
theorem dX2_init_31 : decode cX2_init 31 = .ok (.newarray .int, 2) := by decide +kernel
theorem dX2_init_33 : decode cX2_init 33 = .ok (.putfield 21, 3) := by decide +kernel
theorem dX2_init_36 : decode cX2_init 36 = .ok (.aload_n 0, 1) := by decide +kernel
theorem dX2_init_37 : decode cX2_init 37 = .ok (.iconst 0, 1) := by decide +kernel
theorem dX2_init_38 : decode cX2_init 38 = .ok (.putfield 24, 3) := by decide +kernel
theorem dX2_init_41 : decode cX2_init 41 = .ok (.aload_n 0, 1) := by decide +kernel
theorem dX2_init_42 : decode cX2_init 42 = .ok (.iconst 0, 1) := by decide +kernel
theorem dX2_init_43 : decode cX2_init 43 = .ok (.putfield 28, 3) := by decide +kernel
theorem dX2_init_46 : decode cX2_init 46 = .ok (.return_, 1) := by decide +kernel
theorem dX2_size_0 : decode cX2_size 0 = .ok (.aload_n 0, 1) := by decide +kernel
theorem dX2_size_1 : decode cX2_size 1 = .ok (.getfield 24, 3) := by decide +kernel
theorem dX2_size_4 : decode cX2_size 4 = .ok (.ireturn, 1) := by decide +kernel
theorem dX2_kindAt_0 : decode cX2_kindAt 0 = .ok (.aload_n 0, 1) := by decide +kernel
theorem dX2_kindAt_1 : decode cX2_kindAt 1 = .ok (.getfield 9, 3) := by decide +kernel
theorem dX2_kindAt_4 : decode cX2_kindAt 4 = .ok (.iload_n 1, 1) := by decide +kernel
theorem dX2_kindAt_5 : decode cX2_kindAt 5 = .ok (.iaload, 1) := by decide +kernel
theorem dX2_kindAt_6 : decode cX2_kindAt 6 = .ok (.ireturn, 1) := by decide +kernel
theorem dX2_lampHeld_0 : decode cX2_lampHeld 0 = .ok (.aload_n 0, 1) := by decide +kernel
theorem dX2_lampHeld_1 : decode cX2_lampHeld 1 = .ok (.getfield 15, 3) := by decide +kernel
theorem dX2_lampHeld_4 : decode cX2_lampHeld 4 = .ok (.iload_n 1, 1) := by decide +kernel
theorem dX2_lampHeld_5 : decode cX2_lampHeld 5 = .ok (.iaload, 1) := by decide +kernel
theorem dX2_lampHeld_6 : decode cX2_lampHeld 6 = .ok (.ireturn, 1) := by decide +kernel
theorem dX2_hungAt_0 : decode cX2_hungAt 0 = .ok (.aload_n 0, 1) := by decide +kernel
theorem dX2_hungAt_1 : decode cX2_hungAt 1 = .ok (.getfield 18, 3) := by decide +kernel
theorem dX2_hungAt_4 : decode cX2_hungAt 4 = .ok (.iload_n 1, 1) := by decide +kernel
theorem dX2_hungAt_5 : decode cX2_hungAt 5 = .ok (.iaload, 1) := by decide +kernel
theorem dX2_hungAt_6 : decode cX2_hungAt 6 = .ok (.ireturn, 1) := by decide +kernel
theorem dX2_enter_0 : decode cX2_enter 0 = .ok (.aload_n 0, 1) := by decide +kernel
theorem dX2_enter_1 : decode cX2_enter 1 = .ok (.getfield 24, 3) := by decide +kernel
theorem dX2_enter_4 : decode cX2_enter 4 = .ok (.istore_n 2, 1) := by decide +kernel
theorem dX2_enter_5 : decode cX2_enter 5 = .ok (.aload_n 0, 1) := by decide +kernel
theorem dX2_enter_6 : decode cX2_enter 6 = .ok (.getfield 9, 3) := by decide +kernel
theorem dX2_enter_9 : decode cX2_enter 9 = .ok (.iload_n 2, 1) := by decide +kernel
theorem dX2_enter_10 : decode cX2_enter 10 = .ok (.iload_n 1, 1) := by decide +kernel
theorem dX2_enter_11 : decode cX2_enter 11 = .ok (.iastore, 1) := by decide +kernel
theorem dX2_enter_12 : decode cX2_enter 12 = .ok (.aload_n 0, 1) := by decide +kernel
theorem dX2_enter_13 : decode cX2_enter 13 = .ok (.getfield 15, 3) := by decide +kernel
theorem dX2_enter_16 : decode cX2_enter 16 = .ok (.iload_n 2, 1) := by decide +kernel
theorem dX2_enter_17 : decode cX2_enter 17 = .ok (.iconst (-1), 1) := by decide +kernel
theorem dX2_enter_18 : decode cX2_enter 18 = .ok (.iastore, 1) := by decide +kernel
theorem dX2_enter_19 : decode cX2_enter 19 = .ok (.aload_n 0, 1) := by decide +kernel
theorem dX2_enter_20 : decode cX2_enter 20 = .ok (.dup, 1) := by decide +kernel
theorem dX2_enter_21 : decode cX2_enter 21 = .ok (.getfield 24, 3) := by decide +kernel
theorem dX2_enter_24 : decode cX2_enter 24 = .ok (.iconst 1, 1) := by decide +kernel
theorem dX2_enter_25 : decode cX2_enter 25 = .ok (.iadd, 1) := by decide +kernel
theorem dX2_enter_26 : decode cX2_enter 26 = .ok (.putfield 24, 3) := by decide +kernel
theorem dX2_enter_29 : decode cX2_enter 29 = .ok (.iload_n 2, 1) := by decide +kernel
theorem dX2_enter_30 : decode cX2_enter 30 = .ok (.ireturn, 1) := by decide +kernel
theorem dX2_onBoard_0 : decode cX2_onBoard 0 = .ok (.iconst 0, 1) := by decide +kernel
theorem dX2_onBoard_1 : decode cX2_onBoard 1 = .ok (.istore_n 1, 1) := by decide +kernel
theorem dX2_onBoard_2 : decode cX2_onBoard 2 = .ok (.iconst 0, 1) := by decide +kernel
theorem dX2_onBoard_3 : decode cX2_onBoard 3 = .ok (.istore_n 2, 1) := by decide +kernel
theorem dX2_onBoard_4 : decode cX2_onBoard 4 = .ok (.iload_n 2, 1) := by decide +kernel
theorem dX2_onBoard_5 : decode cX2_onBoard 5 = .ok (.aload_n 0, 1) := by decide +kernel
theorem dX2_onBoard_6 : decode cX2_onBoard 6 = .ok (.getfield 24, 3) := by decide +kernel
theorem dX2_onBoard_9 : decode cX2_onBoard 9 = .ok (.if_icmp .ge 22, 3) := by decide +kernel
theorem dX2_onBoard_12 : decode cX2_onBoard 12 = .ok (.aload_n 0, 1) := by decide +kernel
theorem dX2_onBoard_13 : decode cX2_onBoard 13 = .ok (.getfield 15, 3) := by decide +kernel
theorem dX2_onBoard_16 : decode cX2_onBoard 16 = .ok (.iload_n 2, 1) := by decide +kernel
theorem dX2_onBoard_17 : decode cX2_onBoard 17 = .ok (.iaload, 1) := by decide +kernel
theorem dX2_onBoard_18 : decode cX2_onBoard 18 = .ok (.iconst (-1), 1) := by decide +kernel
theorem dX2_onBoard_19 : decode cX2_onBoard 19 = .ok (.if_icmp .eq 6, 3) := by decide +kernel
theorem dX2_onBoard_22 : decode cX2_onBoard 22 = .ok (.iinc 1 1, 3) := by decide +kernel
theorem dX2_onBoard_25 : decode cX2_onBoard 25 = .ok (.iinc 2 1, 3) := by decide +kernel
theorem dX2_onBoard_28 : decode cX2_onBoard 28 = .ok (.goto (-24), 3) := by decide +kernel
theorem dX2_onBoard_31 : decode cX2_onBoard 31 = .ok (.iload_n 1, 1) := by decide +kernel
theorem dX2_onBoard_32 : decode cX2_onBoard 32 = .ok (.ireturn, 1) := by decide +kernel
set_option maxRecDepth 20000 in
theorem ggX2_onBoardAt_X2_countAhead : GoodIn wsX2_onBoardAt wsX2_countAhead := goodIn_r _ [7, 1, 2, 8, 9, 10, 11, 12, 13, 14] (by decide +kernel) (by decide +kernel)
set_option maxRecDepth 20000 in
theorem gX2_onBoardAt_X2_countAhead : GoodIn wsX2_onBoardAt (wsV RX2 31 RX2 yX2_countAhead wsX2_countAhead) := goodIn_app (goodIn_of _ (by decide +kernel)) ggX2_onBoardAt_X2_countAhead
theorem dX2_onBoardAt_0 : decode cX2_onBoardAt 0 = .ok (.iconst 0, 1) := by decide +kernel
theorem dX2_onBoardAt_1 : decode cX2_onBoardAt 1 = .ok (.istore_n 2, 1) := by decide +kernel
theorem dX2_onBoardAt_2 : decode cX2_onBoardAt 2 = .ok (.iload_n 2, 1) := by decide +kernel
theorem dX2_onBoardAt_3 : decode cX2_onBoardAt 3 = .ok (.aload_n 0, 1) := by decide +kernel
theorem dX2_onBoardAt_4 : decode cX2_onBoardAt 4 = .ok (.getfield 24, 3) := by decide +kernel
theorem dX2_onBoardAt_7 : decode cX2_onBoardAt 7 = .ok (.if_icmp .ge 30, 3) := by decide +kernel
theorem dX2_onBoardAt_10 : decode cX2_onBoardAt 10 = .ok (.aload_n 0, 1) := by decide +kernel
theorem dX2_onBoardAt_11 : decode cX2_onBoardAt 11 = .ok (.getfield 15, 3) := by decide +kernel
theorem dX2_onBoardAt_14 : decode cX2_onBoardAt 14 = .ok (.iload_n 2, 1) := by decide +kernel
theorem dX2_onBoardAt_15 : decode cX2_onBoardAt 15 = .ok (.iaload, 1) := by decide +kernel
theorem dX2_onBoardAt_16 : decode cX2_onBoardAt 16 = .ok (.iconst (-1), 1) := by decide +kernel
theorem dX2_onBoardAt_17 : decode cX2_onBoardAt 17 = .ok (.if_icmp .eq 14, 3) := by decide +kernel
theorem dX2_onBoardAt_20 : decode cX2_onBoardAt 20 = .ok (.aload_n 0, 1) := by decide +kernel
theorem dX2_onBoardAt_21 : decode cX2_onBoardAt 21 = .ok (.iload_n 2, 1) := by decide +kernel
theorem dX2_onBoardAt_22 : decode cX2_onBoardAt 22 = .ok (.invokevirtual 31, 3) := by decide +kernel
theorem dX2_onBoardAt_25 : decode cX2_onBoardAt 25 = .ok (.iload_n 1, 1) := by decide +kernel
theorem dX2_onBoardAt_26 : decode cX2_onBoardAt 26 = .ok (.if_icmp .ne 5, 3) := by decide +kernel
theorem dX2_onBoardAt_29 : decode cX2_onBoardAt 29 = .ok (.iload_n 2, 1) := by decide +kernel
theorem dX2_onBoardAt_30 : decode cX2_onBoardAt 30 = .ok (.ireturn, 1) := by decide +kernel
theorem dX2_onBoardAt_31 : decode cX2_onBoardAt 31 = .ok (.iinc 2 1, 3) := by decide +kernel
theorem dX2_onBoardAt_34 : decode cX2_onBoardAt 34 = .ok (.goto (-32), 3) := by decide +kernel
theorem dX2_onBoardAt_37 : decode cX2_onBoardAt 37 = .ok (.iconst (-1), 1) := by decide +kernel
theorem dX2_onBoardAt_38 : decode cX2_onBoardAt 38 = .ok (.ireturn, 1) := by decide +kernel
theorem dX2_countAhead_0 : decode cX2_countAhead 0 = .ok (.iconst 0, 1) := by decide +kernel
theorem dX2_countAhead_1 : decode cX2_countAhead 1 = .ok (.istore_n 2, 1) := by decide +kernel
theorem dX2_countAhead_2 : decode cX2_countAhead 2 = .ok (.iconst 0, 1) := by decide +kernel
theorem dX2_countAhead_3 : decode cX2_countAhead 3 = .ok (.istore_n 3, 1) := by decide +kernel
theorem dX2_countAhead_4 : decode cX2_countAhead 4 = .ok (.iload_n 3, 1) := by decide +kernel
theorem dX2_countAhead_5 : decode cX2_countAhead 5 = .ok (.aload_n 0, 1) := by decide +kernel
theorem dX2_countAhead_6 : decode cX2_countAhead 6 = .ok (.getfield 24, 3) := by decide +kernel
theorem dX2_countAhead_9 : decode cX2_countAhead 9 = .ok (.if_icmp .ge 37, 3) := by decide +kernel
theorem dX2_countAhead_12 : decode cX2_countAhead 12 = .ok (.aload_n 0, 1) := by decide +kernel
theorem dX2_countAhead_13 : decode cX2_countAhead 13 = .ok (.getfield 15, 3) := by decide +kernel
theorem dX2_countAhead_16 : decode cX2_countAhead 16 = .ok (.iload_n 3, 1) := by decide +kernel
theorem dX2_countAhead_17 : decode cX2_countAhead 17 = .ok (.iaload, 1) := by decide +kernel
theorem dX2_countAhead_18 : decode cX2_countAhead 18 = .ok (.iconst (-1), 1) := by decide +kernel
theorem dX2_countAhead_19 : decode cX2_countAhead 19 = .ok (.if_icmp .eq 21, 3) := by decide +kernel
theorem dX2_countAhead_22 : decode cX2_countAhead 22 = .ok (.aload_n 0, 1) := by decide +kernel
theorem dX2_countAhead_23 : decode cX2_countAhead 23 = .ok (.getfield 21, 3) := by decide +kernel
theorem dX2_countAhead_26 : decode cX2_countAhead 26 = .ok (.iload_n 3, 1) := by decide +kernel
theorem dX2_countAhead_27 : decode cX2_countAhead 27 = .ok (.iaload, 1) := by decide +kernel
theorem dX2_countAhead_28 : decode cX2_countAhead 28 = .ok (.aload_n 0, 1) := by decide +kernel
theorem dX2_countAhead_29 : decode cX2_countAhead 29 = .ok (.getfield 21, 3) := by decide +kernel
theorem dX2_countAhead_32 : decode cX2_countAhead 32 = .ok (.iload_n 1, 1) := by decide +kernel
theorem dX2_countAhead_33 : decode cX2_countAhead 33 = .ok (.iaload, 1) := by decide +kernel
theorem dX2_countAhead_34 : decode cX2_countAhead 34 = .ok (.if_icmp .ge 6, 3) := by decide +kernel
theorem dX2_countAhead_37 : decode cX2_countAhead 37 = .ok (.iinc 2 1, 3) := by decide +kernel
theorem dX2_countAhead_40 : decode cX2_countAhead 40 = .ok (.iinc 3 1, 3) := by decide +kernel
theorem dX2_countAhead_43 : decode cX2_countAhead 43 = .ok (.goto (-39), 3) := by decide +kernel
theorem dX2_countAhead_46 : decode cX2_countAhead 46 = .ok (.iload_n 2, 1) := by decide +kernel
theorem dX2_countAhead_47 : decode cX2_countAhead 47 = .ok (.ireturn, 1) := by decide +kernel
end
section
set_option maxRecDepth 20000 in
theorem ggX3_init_X1_init : GoodIn wsX3_init wsX1_init := goodIn_r _ [18, 19, 2, 3, 20, 21, 22, 23, 24, 25, 26, 27, 28, 29, 43, 44, 45, 46, 47, 48, 49] (by decide +kernel) (by decide +kernel)
set_option maxRecDepth 20000 in
theorem gX3_init_X1_init_n9 : GoodIn wsX3_init (wsX1_init) := ggX3_init_X1_init
set_option maxRecDepth 20000 in
theorem ggX3_init_X2_init : GoodIn wsX3_init wsX2_init := goodIn_r _ [31, 32, 2, 3, 20, 33, 34, 35, 36, 37, 38, 54, 55, 56, 57, 58, 59] (by decide +kernel) (by decide +kernel)
set_option maxRecDepth 20000 in
theorem gX3_init_X2_init_n18 : GoodIn wsX3_init (wsX2_init) := ggX3_init_X2_init
set_option maxRecDepth 20000 in
theorem ggX3_init_X0_init : GoodIn wsX3_init wsX0_init := goodIn_r _ [40, 41, 2, 3, 20, 42, 60] (by decide +kernel) (by decide +kernel)
set_option maxRecDepth 20000 in
theorem gX3_init_X0_init_n25 : GoodIn wsX3_init (wsX0_init) := ggX3_init_X0_init
theorem dX3_init_0 : decode cX3_init 0 = .ok (.aload_n 0, 1) := by decide +kernel
theorem dX3_init_1 : decode cX3_init 1 = .ok (.invokespecial 1, 3) := by decide +kernel
theorem dX3_init_4 : decode cX3_init 4 = .ok (.aload_n 0, 1) := by decide +kernel
theorem dX3_init_5 : decode cX3_init 5 = .ok (.new 7, 3) := by decide +kernel
theorem dX3_init_8 : decode cX3_init 8 = .ok (.dup, 1) := by decide +kernel
theorem dX3_init_9 : decode cX3_init 9 = .ok (.invokespecial 9, 3) := by decide +kernel
theorem dX3_init_12 : decode cX3_init 12 = .ok (.putfield 10, 3) := by decide +kernel
theorem dX3_init_15 : decode cX3_init 15 = .ok (.aload_n 0, 1) := by decide +kernel
theorem dX3_init_16 : decode cX3_init 16 = .ok (.new 16, 3) := by decide +kernel
theorem dX3_init_19 : decode cX3_init 19 = .ok (.dup, 1) := by decide +kernel
theorem dX3_init_20 : decode cX3_init 20 = .ok (.invokespecial 18, 3) := by decide +kernel
theorem dX3_init_23 : decode cX3_init 23 = .ok (.putfield 19, 3) := by decide +kernel
theorem dX3_init_26 : decode cX3_init 26 = .ok (.aload_n 0, 1) := by decide +kernel
theorem dX3_init_27 : decode cX3_init 27 = .ok (.new 23, 3) := by decide +kernel
theorem dX3_init_30 : decode cX3_init 30 = .ok (.dup, 1) := by decide +kernel
theorem dX3_init_31 : decode cX3_init 31 = .ok (.invokespecial 25, 3) := by decide +kernel
theorem dX3_init_34 : decode cX3_init 34 = .ok (.putfield 26, 3) := by decide +kernel
theorem dX3_init_37 : decode cX3_init 37 = .ok (.aload_n 0, 1) := by decide +kernel
theorem dX3_init_38 : decode cX3_init 38 = .ok (.iconst 0, 1) := by decide +kernel
theorem dX3_init_39 : decode cX3_init 39 = .ok (.putfield 30, 3) := by decide +kernel
theorem dX3_init_42 : decode cX3_init 42 = .ok (.return_, 1) := by decide +kernel
set_option maxRecDepth 20000 in
theorem ggX3_addLamp_X3_checkKind : GoodIn wsX3_addLamp wsX3_checkKind := goodIn_ca (goodIn_r _ [7, 8, 9] (by decide +kernel) (by decide +kernel)) (goodIn_sub (fun _ h => List.mem_cons_of_mem _ (List.mem_append_right _ h)) (by decide +kernel))
set_option maxRecDepth 20000 in
theorem gX3_addLamp_X3_checkKind : GoodIn wsX3_addLamp (va_wsS RX3 34 yX3_checkKind wsX3_checkKind) := goodIn_app (goodIn_of _ (by decide +kernel)) ggX3_addLamp_X3_checkKind
set_option maxRecDepth 20000 in
theorem ggX3_addLamp_X1_size : GoodIn wsX3_addLamp wsX1_size := goodIn_r _ [14, 15, 34, 35, 36, 37, 38, 39, 40] (by decide +kernel) (by decide +kernel)
set_option maxRecDepth 20000 in
theorem gX3_addLamp_X1_size : GoodIn wsX3_addLamp (wsV RX3 38 RX1 yX1_size wsX1_size) := goodIn_app (goodIn_of _ (by decide +kernel)) ggX3_addLamp_X1_size
set_option maxRecDepth 20000 in
theorem ggX3_addLamp_X1_hangNew : GoodIn wsX3_addLamp wsX1_hangNew := goodIn_r _ [19, 15, 20, 21, 22, 23, 24, 25, 13, 26, 27, 28, 29, 34, 35, 36, 37, 38, 39, 40] (by decide +kernel) (by decide +kernel)
set_option maxRecDepth 20000 in
theorem gX3_addLamp_X1_hangNew : GoodIn wsX3_addLamp (wsV RX3 49 RX1 yX1_hangNew wsX1_hangNew) := goodIn_app (goodIn_of _ (by decide +kernel)) ggX3_addLamp_X1_hangNew
theorem dX3_addLamp_0 : decode cX3_addLamp 0 = .ok (.iload_n 1, 1) := by decide +kernel
theorem dX3_addLamp_1 : decode cX3_addLamp 1 = .ok (.invokestatic 34, 3) := by decide +kernel
theorem dX3_addLamp_4 : decode cX3_addLamp 4 = .ok (.aload_n 0, 1) := by decide +kernel
theorem dX3_addLamp_5 : decode cX3_addLamp 5 = .ok (.getfield 10, 3) := by decide +kernel
theorem dX3_addLamp_8 : decode cX3_addLamp 8 = .ok (.invokevirtual 38, 3) := by decide +kernel
theorem dX3_addLamp_11 : decode cX3_addLamp 11 = .ok (.bipush 40, 2) := by decide +kernel
theorem dX3_addLamp_13 : decode cX3_addLamp 13 = .ok (.if_icmp .lt 13, 3) := by decide +kernel
theorem dX3_addLamp_16 : decode cX3_addLamp 16 = .ok (.new 42, 3) := by decide +kernel
theorem dX3_addLamp_19 : decode cX3_addLamp 19 = .ok (.dup, 1) := by decide +kernel
theorem dX3_addLamp_20 : decode cX3_addLamp 20 = .ok (.ldc 44, 2) := by decide +kernel
theorem dX3_addLamp_22 : decode cX3_addLamp 22 = .ok (.invokespecial 46, 3) := by decide +kernel
theorem dX3_addLamp_25 : decode cX3_addLamp 25 = .ok (.athrow, 1) := by decide +kernel
theorem dX3_addLamp_26 : decode cX3_addLamp 26 = .ok (.aload_n 0, 1) := by decide +kernel
theorem dX3_addLamp_27 : decode cX3_addLamp 27 = .ok (.getfield 10, 3) := by decide +kernel
theorem dX3_addLamp_30 : decode cX3_addLamp 30 = .ok (.iload_n 1, 1) := by decide +kernel
theorem dX3_addLamp_31 : decode cX3_addLamp 31 = .ok (.invokevirtual 49, 3) := by decide +kernel
theorem dX3_addLamp_34 : decode cX3_addLamp 34 = .ok (.ireturn, 1) := by decide +kernel
set_option maxRecDepth 20000 in
theorem ggX3_addMiner_X3_checkKind : GoodIn wsX3_addMiner wsX3_checkKind := goodIn_ca (goodIn_r _ [7, 8, 9] (by decide +kernel) (by decide +kernel)) (goodIn_sub (fun _ h => List.mem_cons_of_mem _ (List.mem_append_right _ h)) (by decide +kernel))
set_option maxRecDepth 20000 in
theorem gX3_addMiner_X3_checkKind : GoodIn wsX3_addMiner (va_wsS RX3 34 yX3_checkKind wsX3_checkKind) := goodIn_app (goodIn_of _ (by decide +kernel)) ggX3_addMiner_X3_checkKind
set_option maxRecDepth 20000 in
theorem ggX3_addMiner_X2_size : GoodIn wsX3_addMiner wsX2_size := goodIn_r _ [14, 15, 26, 27, 28, 29, 30, 31] (by decide +kernel) (by decide +kernel)
set_option maxRecDepth 20000 in
theorem gX3_addMiner_X2_size : GoodIn wsX3_addMiner (wsV RX3 53 RX2 yX2_size wsX2_size) := goodIn_app (goodIn_of _ (by decide +kernel)) ggX3_addMiner_X2_size
set_option maxRecDepth 20000 in
theorem ggX3_addMiner_X2_enter : GoodIn wsX3_addMiner wsX2_enter := goodIn_r _ [19, 15, 20, 21, 26, 27, 28, 29, 30, 31] (by decide +kernel) (by decide +kernel)
set_option maxRecDepth 20000 in
theorem gX3_addMiner_X2_enter : GoodIn wsX3_addMiner (wsV RX3 56 RX2 yX2_enter wsX2_enter) := goodIn_app (goodIn_of _ (by decide +kernel)) ggX3_addMiner_X2_enter
theorem dX3_addMiner_0 : decode cX3_addMiner 0 = .ok (.iload_n 1, 1) := by decide +kernel
theorem dX3_addMiner_1 : decode cX3_addMiner 1 = .ok (.invokestatic 34, 3) := by decide +kernel
theorem dX3_addMiner_4 : decode cX3_addMiner 4 = .ok (.aload_n 0, 1) := by decide +kernel
theorem dX3_addMiner_5 : decode cX3_addMiner 5 = .ok (.getfield 19, 3) := by decide +kernel
theorem dX3_addMiner_8 : decode cX3_addMiner 8 = .ok (.invokevirtual 53, 3) := by decide +kernel
theorem dX3_addMiner_11 : decode cX3_addMiner 11 = .ok (.bipush 30, 2) := by decide +kernel
theorem dX3_addMiner_13 : decode cX3_addMiner 13 = .ok (.if_icmp .lt 13, 3) := by decide +kernel
theorem dX3_addMiner_16 : decode cX3_addMiner 16 = .ok (.new 42, 3) := by decide +kernel
theorem dX3_addMiner_19 : decode cX3_addMiner 19 = .ok (.dup, 1) := by decide +kernel
theorem dX3_addMiner_20 : decode cX3_addMiner 20 = .ok (.ldc 54, 2) := by decide +kernel
theorem dX3_addMiner_22 : decode cX3_addMiner 22 = .ok (.invokespecial 46, 3) := by decide +kernel
theorem dX3_addMiner_25 : decode cX3_addMiner 25 = .ok (.athrow, 1) := by decide +kernel
theorem dX3_addMiner_26 : decode cX3_addMiner 26 = .ok (.aload_n 0, 1) := by decide +kernel
theorem dX3_addMiner_27 : decode cX3_addMiner 27 = .ok (.getfield 19, 3) := by decide +kernel
theorem dX3_addMiner_30 : decode cX3_addMiner 30 = .ok (.iload_n 1, 1) := by decide +kernel
theorem dX3_addMiner_31 : decode cX3_addMiner 31 = .ok (.invokevirtual 56, 3) := by decide +kernel
theorem dX3_addMiner_34 : decode cX3_addMiner 34 = .ok (.ireturn, 1) := by decide +kernel
set_option maxRecDepth 20000 in
theorem ggX3_test_X3_checkLamp : GoodIn wsX3_test wsX3_checkLamp := goodIn_ca (goodIn_r _ [8, 9, 10, 3, 11, 12, 13, 14, 15, 16, 40, 41, 42, 43, 44, 45, 46, 47, 48, 49, 50] (by decide +kernel) (by decide +kernel)) (goodIn_sub (fun _ h => List.mem_cons_of_mem _ (List.mem_append_right _ h)) (by decide +kernel))
set_option maxRecDepth 20000 in
theorem gX3_test_X3_checkLamp : GoodIn wsX3_test (wsV RX3 97 RX3 yX3_checkLamp wsX3_checkLamp) := goodIn_app (goodIn_of _ (by decide +kernel)) ggX3_test_X3_checkLamp
set_option maxRecDepth 20000 in
theorem ggX3_test_X1_placeAt : GoodIn wsX3_test wsX1_placeAt := goodIn_r _ [20, 21, 44, 45, 46, 47, 48, 49, 50] (by decide +kernel) (by decide +kernel)
set_option maxRecDepth 20000 in
theorem gX3_test_X1_placeAt : GoodIn wsX3_test (wsV RX3 100 RX1 yX1_placeAt wsX1_placeAt) := goodIn_app (goodIn_of _ (by decide +kernel)) ggX3_test_X1_placeAt
theorem dX3_test_0 : decode cX3_test 0 = .ok (.aload_n 0, 1) := by decide +kernel
theorem dX3_test_1 : decode cX3_test 1 = .ok (.iload_n 1, 1) := by decide +kernel
theorem dX3_test_2 : decode cX3_test 2 = .ok (.invokevirtual 97, 3) := by decide +kernel
theorem dX3_test_5 : decode cX3_test 5 = .ok (.aload_n 0, 1) := by decide +kernel
theorem dX3_test_6 : decode cX3_test 6 = .ok (.getfield 10, 3) := by decide +kernel
theorem dX3_test_9 : decode cX3_test 9 = .ok (.iload_n 1, 1) := by decide +kernel
theorem dX3_test_10 : decode cX3_test 10 = .ok (.invokevirtual 100, 3) := by decide +kernel
theorem dX3_test_13 : decode cX3_test 13 = .ok (.ifCond .eq 13, 3) := by decide +kernel
theorem dX3_test_16 : decode cX3_test 16 = .ok (.new 42, 3) := by decide +kernel
theorem dX3_test_19 : decode cX3_test 19 = .ok (.dup, 1) := by decide +kernel
theorem dX3_test_20 : decode cX3_test 20 = .ok (.ldc 103, 2) := by decide +kernel
theorem dX3_test_22 : decode cX3_test 22 = .ok (.invokespecial 46, 3) := by decide +kernel
theorem dX3_test_25 : decode cX3_test 25 = .ok (.athrow, 1) := by decide +kernel
theorem dX3_test_26 : decode cX3_test 26 = .ok (.aload_n 0, 1) := by decide +kernel
theorem dX3_test_27 : decode cX3_test 27 = .ok (.getfield 10, 3) := by decide +kernel
theorem dX3_test_30 : decode cX3_test 30 = .ok (.iload_n 1, 1) := by decide +kernel
theorem dX3_test_31 : decode cX3_test 31 = .ok (.invokevirtual 105, 3) := by decide +kernel
theorem dX3_test_34 : decode cX3_test 34 = .ok (.istore_n 2, 1) := by decide +kernel
theorem dX3_test_35 : decode cX3_test 35 = .ok (.iload_n 2, 1) := by decide +kernel
theorem dX3_test_36 : decode cX3_test 36 = .ok (.ifCond .eq 12, 3) := by decide +kernel
theorem dX3_test_39 : decode cX3_test 39 = .ok (.aload_n 0, 1) := by decide +kernel
theorem dX3_test_40 : decode cX3_test 40 = .ok (.getfield 10, 3) := by decide +kernel
theorem dX3_test_43 : decode cX3_test 43 = .ok (.iload_n 1, 1) := by decide +kernel
theorem dX3_test_44 : decode cX3_test 44 = .ok (.iconst 2, 1) := by decide +kernel
theorem dX3_test_45 : decode cX3_test 45 = .ok (.invokevirtual 75, 3) := by decide +kernel
theorem dX3_test_48 : decode cX3_test 48 = .ok (.iload_n 2, 1) := by decide +kernel
theorem dX3_test_49 : decode cX3_test 49 = .ok (.ireturn, 1) := by decide +kernel
set_option maxRecDepth 20000 in
theorem ggX3_mend_X3_checkLamp : GoodIn wsX3_mend wsX3_checkLamp := goodIn_ca (goodIn_r _ [8, 9, 10, 3, 11, 12, 13, 14, 15, 16, 44, 45, 46, 47, 48, 49, 50, 51, 52, 53, 54] (by decide +kernel) (by decide +kernel)) (goodIn_sub (fun _ h => List.mem_cons_of_mem _ (List.mem_append_right _ h)) (by decide +kernel))
set_option maxRecDepth 20000 in
theorem gX3_mend_X3_checkLamp : GoodIn wsX3_mend (wsV RX3 97 RX3 yX3_checkLamp wsX3_checkLamp) := goodIn_app (goodIn_of _ (by decide +kernel)) ggX3_mend_X3_checkLamp
set_option maxRecDepth 20000 in
theorem ggX3_mend_X1_placeAt : GoodIn wsX3_mend wsX1_placeAt := goodIn_r _ [20, 21, 48, 49, 50, 51, 52, 53, 54] (by decide +kernel) (by decide +kernel)
set_option maxRecDepth 20000 in
theorem gX3_mend_X1_placeAt : GoodIn wsX3_mend (wsV RX3 100 RX1 yX1_placeAt wsX1_placeAt) := goodIn_app (goodIn_of _ (by decide +kernel)) ggX3_mend_X1_placeAt
theorem dX3_mend_0 : decode cX3_mend 0 = .ok (.aload_n 0, 1) := by decide +kernel
theorem dX3_mend_1 : decode cX3_mend 1 = .ok (.iload_n 1, 1) := by decide +kernel
theorem dX3_mend_2 : decode cX3_mend 2 = .ok (.invokevirtual 97, 3) := by decide +kernel
theorem dX3_mend_5 : decode cX3_mend 5 = .ok (.aload_n 0, 1) := by decide +kernel
theorem dX3_mend_6 : decode cX3_mend 6 = .ok (.getfield 10, 3) := by decide +kernel
theorem dX3_mend_9 : decode cX3_mend 9 = .ok (.iload_n 1, 1) := by decide +kernel
theorem dX3_mend_10 : decode cX3_mend 10 = .ok (.invokevirtual 100, 3) := by decide +kernel
theorem dX3_mend_13 : decode cX3_mend 13 = .ok (.iconst 2, 1) := by decide +kernel
theorem dX3_mend_14 : decode cX3_mend 14 = .ok (.if_icmp .eq 13, 3) := by decide +kernel
theorem dX3_mend_17 : decode cX3_mend 17 = .ok (.new 42, 3) := by decide +kernel
theorem dX3_mend_20 : decode cX3_mend 20 = .ok (.dup, 1) := by decide +kernel
theorem dX3_mend_21 : decode cX3_mend 21 = .ok (.ldc 108, 2) := by decide +kernel
theorem dX3_mend_23 : decode cX3_mend 23 = .ok (.invokespecial 46, 3) := by decide +kernel
theorem dX3_mend_26 : decode cX3_mend 26 = .ok (.athrow, 1) := by decide +kernel
theorem dX3_mend_27 : decode cX3_mend 27 = .ok (.aload_n 0, 1) := by decide +kernel
theorem dX3_mend_28 : decode cX3_mend 28 = .ok (.getfield 10, 3) := by decide +kernel
theorem dX3_mend_31 : decode cX3_mend 31 = .ok (.iload_n 1, 1) := by decide +kernel
theorem dX3_mend_32 : decode cX3_mend 32 = .ok (.invokevirtual 110, 3) := by decide +kernel
theorem dX3_mend_35 : decode cX3_mend 35 = .ok (.aload_n 0, 1) := by decide +kernel
theorem dX3_mend_36 : decode cX3_mend 36 = .ok (.getfield 10, 3) := by decide +kernel
theorem dX3_mend_39 : decode cX3_mend 39 = .ok (.iload_n 1, 1) := by decide +kernel
theorem dX3_mend_40 : decode cX3_mend 40 = .ok (.invokevirtual 105, 3) := by decide +kernel
theorem dX3_mend_43 : decode cX3_mend 43 = .ok (.ifCond .ne 7, 3) := by decide +kernel
theorem dX3_mend_46 : decode cX3_mend 46 = .ok (.iconst 1, 1) := by decide +kernel
theorem dX3_mend_47 : decode cX3_mend 47 = .ok (.goto 4, 3) := by decide +kernel
theorem dX3_mend_50 : decode cX3_mend 50 = .ok (.iconst 0, 1) := by decide +kernel
theorem dX3_mend_51 : decode cX3_mend 51 = .ok (.istore_n 2, 1) := by decide +kernel
theorem dX3_mend_52 : decode cX3_mend 52 = .ok (.aload_n 0, 1) := by decide +kernel
theorem dX3_mend_53 : decode cX3_mend 53 = .ok (.getfield 10, 3) := by decide +kernel
theorem dX3_mend_56 : decode cX3_mend 56 = .ok (.iload_n 1, 1) := by decide +kernel
theorem dX3_mend_57 : decode cX3_mend 57 = .ok (.iload_n 2, 1) := by decide +kernel
theorem dX3_mend_58 : decode cX3_mend 58 = .ok (.ifCond .eq 7, 3) := by decide +kernel
theorem dX3_mend_61 : decode cX3_mend 61 = .ok (.iconst 0, 1) := by decide +kernel
theorem dX3_mend_62 : decode cX3_mend 62 = .ok (.goto 4, 3) := by decide +kernel
theorem dX3_mend_65 : decode cX3_mend 65 = .ok (.iconst 3, 1) := by decide +kernel
theorem dX3_mend_66 : decode cX3_mend 66 = .ok (.invokevirtual 75, 3) := by decide +kernel
theorem dX3_mend_69 : decode cX3_mend 69 = .ok (.iload_n 2, 1) := by decide +kernel
theorem dX3_mend_70 : decode cX3_mend 70 = .ok (.ireturn, 1) := by decide +kernel
set_option maxRecDepth 20000 in
theorem ggX3_below_X2_onBoard : GoodIn wsX3_below wsX2_onBoard := goodIn_r _ [6, 7, 8, 13, 14, 15, 16, 17, 18] (by decide +kernel) (by decide +kernel)
set_option maxRecDepth 20000 in
theorem gX3_below_X2_onBoard : GoodIn wsX3_below (wsV RX3 121 RX2 yX2_onBoard wsX2_onBoard) := goodIn_app (goodIn_of _ (by decide +kernel)) ggX3_below_X2_onBoard
theorem dX3_below_0 : decode cX3_below 0 = .ok (.aload_n 0, 1) := by decide +kernel
theorem dX3_below_1 : decode cX3_below 1 = .ok (.getfield 19, 3) := by decide +kernel
theorem dX3_below_4 : decode cX3_below 4 = .ok (.invokevirtual 121, 3) := by decide +kernel
theorem dX3_below_7 : decode cX3_below 7 = .ok (.ireturn, 1) := by decide +kernel
set_option maxRecDepth 20000 in
theorem ggX3_board_X2_onBoardAt : GoodIn wsX3_board wsX2_onBoardAt := goodIn_r _ [6, 7, 8, 9, 10, 11, 5, 12, 13, 18, 19, 20, 21, 22, 23] (by decide +kernel) (by decide +kernel)
set_option maxRecDepth 20000 in
theorem gX3_board_X2_onBoardAt : GoodIn wsX3_board (wsV RX3 124 RX2 yX2_onBoardAt wsX2_onBoardAt) := goodIn_app (goodIn_of _ (by decide +kernel)) ggX3_board_X2_onBoardAt
theorem dX3_board_0 : decode cX3_board 0 = .ok (.aload_n 0, 1) := by decide +kernel
theorem dX3_board_1 : decode cX3_board 1 = .ok (.getfield 19, 3) := by decide +kernel
theorem dX3_board_4 : decode cX3_board 4 = .ok (.iload_n 1, 1) := by decide +kernel
theorem dX3_board_5 : decode cX3_board 5 = .ok (.invokevirtual 124, 3) := by decide +kernel
theorem dX3_board_8 : decode cX3_board 8 = .ok (.ireturn, 1) := by decide +kernel
set_option maxRecDepth 20000 in
theorem ggX3_lampOf_X3_checkMiner : GoodIn wsX3_lampOf wsX3_checkMiner := goodIn_ca (goodIn_r _ [6, 7, 8, 1, 9, 10, 11, 12, 13, 14, 20, 21, 22, 23, 24, 25, 26, 27, 28, 29] (by decide +kernel) (by decide +kernel)) (goodIn_sub (fun _ h => List.mem_cons_of_mem _ (List.mem_append_right _ h)) (by decide +kernel))
set_option maxRecDepth 20000 in
theorem gX3_lampOf_X3_checkMiner : GoodIn wsX3_lampOf (wsV RX3 59 RX3 yX3_checkMiner wsX3_checkMiner) := goodIn_app (goodIn_of _ (by decide +kernel)) ggX3_lampOf_X3_checkMiner
set_option maxRecDepth 20000 in
theorem ggX3_lampOf_X2_lampHeld : GoodIn wsX3_lampOf wsX2_lampHeld := goodIn_r _ [18, 19, 24, 25, 26, 27, 28, 29] (by decide +kernel) (by decide +kernel)
set_option maxRecDepth 20000 in
theorem gX3_lampOf_X2_lampHeld : GoodIn wsX3_lampOf (wsV RX3 62 RX2 yX2_lampHeld wsX2_lampHeld) := goodIn_app (goodIn_of _ (by decide +kernel)) ggX3_lampOf_X2_lampHeld
theorem dX3_lampOf_0 : decode cX3_lampOf 0 = .ok (.aload_n 0, 1) := by decide +kernel
theorem dX3_lampOf_1 : decode cX3_lampOf 1 = .ok (.iload_n 1, 1) := by decide +kernel
theorem dX3_lampOf_2 : decode cX3_lampOf 2 = .ok (.invokevirtual 59, 3) := by decide +kernel
theorem dX3_lampOf_5 : decode cX3_lampOf 5 = .ok (.aload_n 0, 1) := by decide +kernel
theorem dX3_lampOf_6 : decode cX3_lampOf 6 = .ok (.getfield 19, 3) := by decide +kernel
theorem dX3_lampOf_9 : decode cX3_lampOf 9 = .ok (.iload_n 1, 1) := by decide +kernel
theorem dX3_lampOf_10 : decode cX3_lampOf 10 = .ok (.invokevirtual 62, 3) := by decide +kernel
theorem dX3_lampOf_13 : decode cX3_lampOf 13 = .ok (.ireturn, 1) := by decide +kernel
set_option maxRecDepth 20000 in
theorem ggX3_hoursBelow_X3_checkMiner : GoodIn wsX3_hoursBelow wsX3_checkMiner := goodIn_ca (goodIn_r _ [7, 8, 9, 1, 10, 11, 12, 13, 14, 15, 26, 27, 28, 29, 30, 31, 32, 33, 34, 35] (by decide +kernel) (by decide +kernel)) (goodIn_sub (fun _ h => List.mem_cons_of_mem _ (List.mem_append_right _ h)) (by decide +kernel))
set_option maxRecDepth 20000 in
theorem gX3_hoursBelow_X3_checkMiner : GoodIn wsX3_hoursBelow (wsV RX3 59 RX3 yX3_checkMiner wsX3_checkMiner) := goodIn_app (goodIn_of _ (by decide +kernel)) ggX3_hoursBelow_X3_checkMiner
set_option maxRecDepth 20000 in
theorem ggX3_hoursBelow_X2_lampHeld : GoodIn wsX3_hoursBelow wsX2_lampHeld := goodIn_r _ [19, 20, 30, 31, 32, 33, 34, 35] (by decide +kernel) (by decide +kernel)
set_option maxRecDepth 20000 in
theorem gX3_hoursBelow_X2_lampHeld : GoodIn wsX3_hoursBelow (wsV RX3 62 RX2 yX2_lampHeld wsX2_lampHeld) := goodIn_app (goodIn_of _ (by decide +kernel)) ggX3_hoursBelow_X2_lampHeld
set_option maxRecDepth 20000 in
theorem ggX3_hoursBelow_X2_hungAt : GoodIn wsX3_hoursBelow wsX2_hungAt := goodIn_r _ [24, 25, 30, 31, 32, 33, 34, 35] (by decide +kernel) (by decide +kernel)
set_option maxRecDepth 20000 in
theorem gX3_hoursBelow_X2_hungAt : GoodIn wsX3_hoursBelow (wsV RX3 85 RX2 yX2_hungAt wsX2_hungAt) := goodIn_app (goodIn_of _ (by decide +kernel)) ggX3_hoursBelow_X2_hungAt
theorem dX3_hoursBelow_0 : decode cX3_hoursBelow 0 = .ok (.aload_n 0, 1) := by decide +kernel
theorem dX3_hoursBelow_1 : decode cX3_hoursBelow 1 = .ok (.iload_n 1, 1) := by decide +kernel
theorem dX3_hoursBelow_2 : decode cX3_hoursBelow 2 = .ok (.invokevirtual 59, 3) := by decide +kernel
theorem dX3_hoursBelow_5 : decode cX3_hoursBelow 5 = .ok (.aload_n 0, 1) := by decide +kernel
theorem dX3_hoursBelow_6 : decode cX3_hoursBelow 6 = .ok (.getfield 19, 3) := by decide +kernel
theorem dX3_hoursBelow_9 : decode cX3_hoursBelow 9 = .ok (.iload_n 1, 1) := by decide +kernel
theorem dX3_hoursBelow_10 : decode cX3_hoursBelow 10 = .ok (.invokevirtual 62, 3) := by decide +kernel
theorem dX3_hoursBelow_13 : decode cX3_hoursBelow 13 = .ok (.iconst (-1), 1) := by decide +kernel
theorem dX3_hoursBelow_14 : decode cX3_hoursBelow 14 = .ok (.if_icmp .ne 7, 3) := by decide +kernel
theorem dX3_hoursBelow_17 : decode cX3_hoursBelow 17 = .ok (.iconst (-1), 1) := by decide +kernel
theorem dX3_hoursBelow_18 : decode cX3_hoursBelow 18 = .ok (.goto 16, 3) := by decide +kernel
theorem dX3_hoursBelow_21 : decode cX3_hoursBelow 21 = .ok (.aload_n 0, 1) := by decide +kernel
theorem dX3_hoursBelow_22 : decode cX3_hoursBelow 22 = .ok (.getfield 30, 3) := by decide +kernel
theorem dX3_hoursBelow_25 : decode cX3_hoursBelow 25 = .ok (.aload_n 0, 1) := by decide +kernel
theorem dX3_hoursBelow_26 : decode cX3_hoursBelow 26 = .ok (.getfield 19, 3) := by decide +kernel
theorem dX3_hoursBelow_29 : decode cX3_hoursBelow 29 = .ok (.iload_n 1, 1) := by decide +kernel
theorem dX3_hoursBelow_30 : decode cX3_hoursBelow 30 = .ok (.invokevirtual 85, 3) := by decide +kernel
theorem dX3_hoursBelow_33 : decode cX3_hoursBelow 33 = .ok (.isub, 1) := by decide +kernel
theorem dX3_hoursBelow_34 : decode cX3_hoursBelow 34 = .ok (.ireturn, 1) := by decide +kernel
set_option maxRecDepth 20000 in
theorem ggX3_placeOf_X3_checkLamp : GoodIn wsX3_placeOf wsX3_checkLamp := goodIn_ca (goodIn_r _ [6, 7, 8, 1, 9, 10, 11, 12, 13, 14, 20, 21, 22, 23, 24, 25, 26, 27, 28, 29, 30] (by decide +kernel) (by decide +kernel)) (goodIn_sub (fun _ h => List.mem_cons_of_mem _ (List.mem_append_right _ h)) (by decide +kernel))
set_option maxRecDepth 20000 in
theorem gX3_placeOf_X3_checkLamp : GoodIn wsX3_placeOf (wsV RX3 97 RX3 yX3_checkLamp wsX3_checkLamp) := goodIn_app (goodIn_of _ (by decide +kernel)) ggX3_placeOf_X3_checkLamp
set_option maxRecDepth 20000 in
theorem ggX3_placeOf_X1_placeAt : GoodIn wsX3_placeOf wsX1_placeAt := goodIn_r _ [18, 19, 24, 25, 26, 27, 28, 29, 30] (by decide +kernel) (by decide +kernel)
set_option maxRecDepth 20000 in
theorem gX3_placeOf_X1_placeAt : GoodIn wsX3_placeOf (wsV RX3 100 RX1 yX1_placeAt wsX1_placeAt) := goodIn_app (goodIn_of _ (by decide +kernel)) ggX3_placeOf_X1_placeAt
theorem dX3_placeOf_0 : decode cX3_placeOf 0 = .ok (.aload_n 0, 1) := by decide +kernel
theorem dX3_placeOf_1 : decode cX3_placeOf 1 = .ok (.iload_n 1, 1) := by decide +kernel
theorem dX3_placeOf_2 : decode cX3_placeOf 2 = .ok (.invokevirtual 97, 3) := by decide +kernel
theorem dX3_placeOf_5 : decode cX3_placeOf 5 = .ok (.aload_n 0, 1) := by decide +kernel
theorem dX3_placeOf_6 : decode cX3_placeOf 6 = .ok (.getfield 10, 3) := by decide +kernel
theorem dX3_placeOf_9 : decode cX3_placeOf 9 = .ok (.iload_n 1, 1) := by decide +kernel
theorem dX3_placeOf_10 : decode cX3_placeOf 10 = .ok (.invokevirtual 100, 3) := by decide +kernel
theorem dX3_placeOf_13 : decode cX3_placeOf 13 = .ok (.ireturn, 1) := by decide +kernel
set_option maxRecDepth 20000 in
theorem ggX3_chargeOf_X3_checkLamp : GoodIn wsX3_chargeOf wsX3_checkLamp := goodIn_ca (goodIn_r _ [6, 7, 8, 1, 9, 10, 11, 12, 13, 14, 20, 21, 22, 23, 24, 25, 26, 27, 28, 29, 30] (by decide +kernel) (by decide +kernel)) (goodIn_sub (fun _ h => List.mem_cons_of_mem _ (List.mem_append_right _ h)) (by decide +kernel))
set_option maxRecDepth 20000 in
theorem gX3_chargeOf_X3_checkLamp : GoodIn wsX3_chargeOf (wsV RX3 97 RX3 yX3_checkLamp wsX3_checkLamp) := goodIn_app (goodIn_of _ (by decide +kernel)) ggX3_chargeOf_X3_checkLamp
set_option maxRecDepth 20000 in
theorem ggX3_chargeOf_X1_chargeAt : GoodIn wsX3_chargeOf wsX1_chargeAt := goodIn_r _ [18, 19, 24, 25, 26, 27, 28, 29, 30] (by decide +kernel) (by decide +kernel)
set_option maxRecDepth 20000 in
theorem gX3_chargeOf_X1_chargeAt : GoodIn wsX3_chargeOf (wsV RX3 127 RX1 yX1_chargeAt wsX1_chargeAt) := goodIn_app (goodIn_of _ (by decide +kernel)) ggX3_chargeOf_X1_chargeAt
theorem dX3_chargeOf_0 : decode cX3_chargeOf 0 = .ok (.aload_n 0, 1) := by decide +kernel
theorem dX3_chargeOf_1 : decode cX3_chargeOf 1 = .ok (.iload_n 1, 1) := by decide +kernel
theorem dX3_chargeOf_2 : decode cX3_chargeOf 2 = .ok (.invokevirtual 97, 3) := by decide +kernel
theorem dX3_chargeOf_5 : decode cX3_chargeOf 5 = .ok (.aload_n 0, 1) := by decide +kernel
theorem dX3_chargeOf_6 : decode cX3_chargeOf 6 = .ok (.getfield 10, 3) := by decide +kernel
theorem dX3_chargeOf_9 : decode cX3_chargeOf 9 = .ok (.iload_n 1, 1) := by decide +kernel
theorem dX3_chargeOf_10 : decode cX3_chargeOf 10 = .ok (.invokevirtual 127, 3) := by decide +kernel
theorem dX3_chargeOf_13 : decode cX3_chargeOf 13 = .ok (.dreturn, 1) := by decide +kernel
set_option maxRecDepth 20000 in
theorem ggX3_capacityOf_X3_checkLamp : GoodIn wsX3_capacityOf wsX3_checkLamp := goodIn_ca (goodIn_r _ [6, 7, 8, 1, 9, 10, 11, 12, 13, 14, 20, 21, 22, 23, 24, 25, 26, 27, 28, 29, 30] (by decide +kernel) (by decide +kernel)) (goodIn_sub (fun _ h => List.mem_cons_of_mem _ (List.mem_append_right _ h)) (by decide +kernel))
set_option maxRecDepth 20000 in
theorem gX3_capacityOf_X3_checkLamp : GoodIn wsX3_capacityOf (wsV RX3 97 RX3 yX3_checkLamp wsX3_checkLamp) := goodIn_app (goodIn_of _ (by decide +kernel)) ggX3_capacityOf_X3_checkLamp
set_option maxRecDepth 20000 in
theorem ggX3_capacityOf_X1_capacityAt : GoodIn wsX3_capacityOf wsX1_capacityAt := goodIn_r _ [18, 19, 24, 25, 26, 27, 28, 29, 30] (by decide +kernel) (by decide +kernel)
set_option maxRecDepth 20000 in
theorem gX3_capacityOf_X1_capacityAt : GoodIn wsX3_capacityOf (wsV RX3 131 RX1 yX1_capacityAt wsX1_capacityAt) := goodIn_app (goodIn_of _ (by decide +kernel)) ggX3_capacityOf_X1_capacityAt
theorem dX3_capacityOf_0 : decode cX3_capacityOf 0 = .ok (.aload_n 0, 1) := by decide +kernel
theorem dX3_capacityOf_1 : decode cX3_capacityOf 1 = .ok (.iload_n 1, 1) := by decide +kernel
theorem dX3_capacityOf_2 : decode cX3_capacityOf 2 = .ok (.invokevirtual 97, 3) := by decide +kernel
theorem dX3_capacityOf_5 : decode cX3_capacityOf 5 = .ok (.aload_n 0, 1) := by decide +kernel
theorem dX3_capacityOf_6 : decode cX3_capacityOf 6 = .ok (.getfield 10, 3) := by decide +kernel
theorem dX3_capacityOf_9 : decode cX3_capacityOf 9 = .ok (.iload_n 1, 1) := by decide +kernel
theorem dX3_capacityOf_10 : decode cX3_capacityOf 10 = .ok (.invokevirtual 131, 3) := by decide +kernel
theorem dX3_capacityOf_13 : decode cX3_capacityOf 13 = .ok (.dreturn, 1) := by decide +kernel
set_option maxRecDepth 20000 in
theorem ggX3_turnsOf_X3_checkLamp : GoodIn wsX3_turnsOf wsX3_checkLamp := goodIn_ca (goodIn_r _ [6, 7, 8, 1, 9, 10, 11, 12, 13, 14, 20, 21, 22, 23, 24, 25, 26, 27, 28, 29, 30] (by decide +kernel) (by decide +kernel)) (goodIn_sub (fun _ h => List.mem_cons_of_mem _ (List.mem_append_right _ h)) (by decide +kernel))
set_option maxRecDepth 20000 in
theorem gX3_turnsOf_X3_checkLamp : GoodIn wsX3_turnsOf (wsV RX3 97 RX3 yX3_checkLamp wsX3_checkLamp) := goodIn_app (goodIn_of _ (by decide +kernel)) ggX3_turnsOf_X3_checkLamp
set_option maxRecDepth 20000 in
theorem ggX3_turnsOf_X1_turnsAt : GoodIn wsX3_turnsOf wsX1_turnsAt := goodIn_r _ [18, 19, 24, 25, 26, 27, 28, 29, 30] (by decide +kernel) (by decide +kernel)
set_option maxRecDepth 20000 in
theorem gX3_turnsOf_X1_turnsAt : GoodIn wsX3_turnsOf (wsV RX3 134 RX1 yX1_turnsAt wsX1_turnsAt) := goodIn_app (goodIn_of _ (by decide +kernel)) ggX3_turnsOf_X1_turnsAt
theorem dX3_turnsOf_0 : decode cX3_turnsOf 0 = .ok (.aload_n 0, 1) := by decide +kernel
theorem dX3_turnsOf_1 : decode cX3_turnsOf 1 = .ok (.iload_n 1, 1) := by decide +kernel
theorem dX3_turnsOf_2 : decode cX3_turnsOf 2 = .ok (.invokevirtual 97, 3) := by decide +kernel
theorem dX3_turnsOf_5 : decode cX3_turnsOf 5 = .ok (.aload_n 0, 1) := by decide +kernel
theorem dX3_turnsOf_6 : decode cX3_turnsOf 6 = .ok (.getfield 10, 3) := by decide +kernel
theorem dX3_turnsOf_9 : decode cX3_turnsOf 9 = .ok (.iload_n 1, 1) := by decide +kernel
theorem dX3_turnsOf_10 : decode cX3_turnsOf 10 = .ok (.invokevirtual 134, 3) := by decide +kernel
theorem dX3_turnsOf_13 : decode cX3_turnsOf 13 = .ok (.ireturn, 1) := by decide +kernel
set_option maxRecDepth 20000 in
theorem ggX3_ready_X3_checkKind : GoodIn wsX3_ready wsX3_checkKind := goodIn_ca (goodIn_r _ [5, 6, 7] (by decide +kernel) (by decide +kernel)) (goodIn_sub (fun _ h => List.mem_cons_of_mem _ (List.mem_append_right _ h)) (by decide +kernel))
set_option maxRecDepth 20000 in
theorem gX3_ready_X3_checkKind : GoodIn wsX3_ready (va_wsS RX3 34 yX3_checkKind wsX3_checkKind) := goodIn_app (goodIn_of _ (by decide +kernel)) ggX3_ready_X3_checkKind
set_option maxRecDepth 20000 in
theorem ggX3_ready_X1_countIssuable : GoodIn wsX3_ready wsX1_countIssuable := goodIn_r _ [12, 13, 14, 15, 16, 11, 17, 18, 19, 20, 21, 26, 27, 28, 29, 30, 31, 32] (by decide +kernel) (by decide +kernel)
set_option maxRecDepth 20000 in
theorem gX3_ready_X1_countIssuable : GoodIn wsX3_ready (wsV RX3 137 RX1 yX1_countIssuable wsX1_countIssuable) := goodIn_app (goodIn_of _ (by decide +kernel)) ggX3_ready_X1_countIssuable
theorem dX3_ready_0 : decode cX3_ready 0 = .ok (.iload_n 1, 1) := by decide +kernel
theorem dX3_ready_1 : decode cX3_ready 1 = .ok (.invokestatic 34, 3) := by decide +kernel
theorem dX3_ready_4 : decode cX3_ready 4 = .ok (.aload_n 0, 1) := by decide +kernel
theorem dX3_ready_5 : decode cX3_ready 5 = .ok (.getfield 10, 3) := by decide +kernel
theorem dX3_ready_8 : decode cX3_ready 8 = .ok (.iload_n 1, 1) := by decide +kernel
theorem dX3_ready_9 : decode cX3_ready 9 = .ok (.invokevirtual 137, 3) := by decide +kernel
theorem dX3_ready_12 : decode cX3_ready 12 = .ok (.ireturn, 1) := by decide +kernel
set_option maxRecDepth 20000 in
theorem ggX3_spares_X2_size : GoodIn wsX3_spares wsX2_size := goodIn_r _ [7, 8, 29, 30, 31, 32, 33, 34] (by decide +kernel) (by decide +kernel)
set_option maxRecDepth 20000 in
theorem gX3_spares_X2_size : GoodIn wsX3_spares (wsV RX3 53 RX2 yX2_size wsX2_size) := goodIn_app (goodIn_of _ (by decide +kernel)) ggX3_spares_X2_size
set_option maxRecDepth 20000 in
theorem ggX3_spares_X2_lampHeld : GoodIn wsX3_spares wsX2_lampHeld := goodIn_r _ [12, 13, 29, 30, 31, 32, 33, 34] (by decide +kernel) (by decide +kernel)
set_option maxRecDepth 20000 in
theorem gX3_spares_X2_lampHeld : GoodIn wsX3_spares (wsV RX3 62 RX2 yX2_lampHeld wsX2_lampHeld) := goodIn_app (goodIn_of _ (by decide +kernel)) ggX3_spares_X2_lampHeld
set_option maxRecDepth 20000 in
theorem ggX3_spares_X1_kindAt : GoodIn wsX3_spares wsX1_kindAt := goodIn_r _ [18, 19, 35, 36, 37, 38, 39, 40, 41] (by decide +kernel) (by decide +kernel)
set_option maxRecDepth 20000 in
theorem gX3_spares_X1_kindAt : GoodIn wsX3_spares (wsV RX3 140 RX1 yX1_kindAt wsX1_kindAt) := goodIn_app (goodIn_of _ (by decide +kernel)) ggX3_spares_X1_kindAt
set_option maxRecDepth 20000 in
theorem ggX3_spares_X2_kindAt : GoodIn wsX3_spares wsX2_kindAt := goodIn_r _ [23, 24, 29, 30, 31, 32, 33, 34] (by decide +kernel) (by decide +kernel)
set_option maxRecDepth 20000 in
theorem gX3_spares_X2_kindAt : GoodIn wsX3_spares (wsV RX3 67 RX2 yX2_kindAt wsX2_kindAt) := goodIn_app (goodIn_of _ (by decide +kernel)) ggX3_spares_X2_kindAt
theorem dX3_spares_0 : decode cX3_spares 0 = .ok (.iconst 0, 1) := by decide +kernel
theorem dX3_spares_1 : decode cX3_spares 1 = .ok (.istore_n 1, 1) := by decide +kernel
theorem dX3_spares_2 : decode cX3_spares 2 = .ok (.iconst 0, 1) := by decide +kernel
theorem dX3_spares_3 : decode cX3_spares 3 = .ok (.istore_n 2, 1) := by decide +kernel
theorem dX3_spares_4 : decode cX3_spares 4 = .ok (.iload_n 2, 1) := by decide +kernel
theorem dX3_spares_5 : decode cX3_spares 5 = .ok (.aload_n 0, 1) := by decide +kernel
theorem dX3_spares_6 : decode cX3_spares 6 = .ok (.getfield 19, 3) := by decide +kernel
theorem dX3_spares_9 : decode cX3_spares 9 = .ok (.invokevirtual 53, 3) := by decide +kernel
theorem dX3_spares_12 : decode cX3_spares 12 = .ok (.if_icmp .ge 45, 3) := by decide +kernel
theorem dX3_spares_15 : decode cX3_spares 15 = .ok (.aload_n 0, 1) := by decide +kernel
theorem dX3_spares_16 : decode cX3_spares 16 = .ok (.getfield 19, 3) := by decide +kernel
theorem dX3_spares_19 : decode cX3_spares 19 = .ok (.iload_n 2, 1) := by decide +kernel
theorem dX3_spares_20 : decode cX3_spares 20 = .ok (.invokevirtual 62, 3) := by decide +kernel
theorem dX3_spares_23 : decode cX3_spares 23 = .ok (.istore_n 3, 1) := by decide +kernel
theorem dX3_spares_24 : decode cX3_spares 24 = .ok (.iload_n 3, 1) := by decide +kernel
theorem dX3_spares_25 : decode cX3_spares 25 = .ok (.iconst (-1), 1) := by decide +kernel
theorem dX3_spares_26 : decode cX3_spares 26 = .ok (.if_icmp .eq 25, 3) := by decide +kernel
theorem dX3_spares_29 : decode cX3_spares 29 = .ok (.aload_n 0, 1) := by decide +kernel
theorem dX3_spares_30 : decode cX3_spares 30 = .ok (.getfield 10, 3) := by decide +kernel
theorem dX3_spares_33 : decode cX3_spares 33 = .ok (.iload_n 3, 1) := by decide +kernel
theorem dX3_spares_34 : decode cX3_spares 34 = .ok (.invokevirtual 140, 3) := by decide +kernel
theorem dX3_spares_37 : decode cX3_spares 37 = .ok (.aload_n 0, 1) := by decide +kernel
theorem dX3_spares_38 : decode cX3_spares 38 = .ok (.getfield 19, 3) := by decide +kernel
theorem dX3_spares_41 : decode cX3_spares 41 = .ok (.iload_n 2, 1) := by decide +kernel
theorem dX3_spares_42 : decode cX3_spares 42 = .ok (.invokevirtual 67, 3) := by decide +kernel
theorem dX3_spares_45 : decode cX3_spares 45 = .ok (.if_icmp .le 6, 3) := by decide +kernel
theorem dX3_spares_48 : decode cX3_spares 48 = .ok (.iinc 1 1, 3) := by decide +kernel
theorem dX3_spares_51 : decode cX3_spares 51 = .ok (.iinc 2 1, 3) := by decide +kernel
theorem dX3_spares_54 : decode cX3_spares 54 = .ok (.goto (-50), 3) := by decide +kernel
theorem dX3_spares_57 : decode cX3_spares 57 = .ok (.iload_n 1, 1) := by decide +kernel
theorem dX3_spares_58 : decode cX3_spares 58 = .ok (.ireturn, 1) := by decide +kernel
set_option maxRecDepth 20000 in
theorem ggX3_alarm_X0_lastingAt : GoodIn wsX3_alarm wsX0_lastingAt := goodIn_r _ [6, 7, 8, 9, 10, 5, 11, 12, 13, 14, 15, 20] (by decide +kernel) (by decide +kernel)
set_option maxRecDepth 20000 in
theorem gX3_alarm_X0_lastingAt : GoodIn wsX3_alarm (wsV RX3 141 RX0 yX0_lastingAt wsX0_lastingAt) := goodIn_app (goodIn_of _ (by decide +kernel)) ggX3_alarm_X0_lastingAt
theorem dX3_alarm_0 : decode cX3_alarm 0 = .ok (.aload_n 0, 1) := by decide +kernel
theorem dX3_alarm_1 : decode cX3_alarm 1 = .ok (.getfield 26, 3) := by decide +kernel
theorem dX3_alarm_4 : decode cX3_alarm 4 = .ok (.iload_n 1, 1) := by decide +kernel
theorem dX3_alarm_5 : decode cX3_alarm 5 = .ok (.invokevirtual 141, 3) := by decide +kernel
theorem dX3_alarm_8 : decode cX3_alarm 8 = .ok (.ireturn, 1) := by decide +kernel
set_option maxRecDepth 20000 in
theorem ggX3_lightLeft_X3_checkMiner : GoodIn wsX3_lightLeft wsX3_checkMiner := goodIn_ca (goodIn_r _ [7, 8, 9, 1, 10, 11, 12, 13, 14, 15, 27, 28, 29, 30, 31, 32, 33, 34, 35, 36] (by decide +kernel) (by decide +kernel)) (goodIn_sub (fun _ h => List.mem_cons_of_mem _ (List.mem_append_right _ h)) (by decide +kernel))
set_option maxRecDepth 20000 in
theorem gX3_lightLeft_X3_checkMiner : GoodIn wsX3_lightLeft (wsV RX3 59 RX3 yX3_checkMiner wsX3_checkMiner) := goodIn_app (goodIn_of _ (by decide +kernel)) ggX3_lightLeft_X3_checkMiner
set_option maxRecDepth 20000 in
theorem ggX3_lightLeft_X2_lampHeld : GoodIn wsX3_lightLeft wsX2_lampHeld := goodIn_r _ [19, 20, 31, 32, 33, 34, 35, 36] (by decide +kernel) (by decide +kernel)
set_option maxRecDepth 20000 in
theorem gX3_lightLeft_X2_lampHeld : GoodIn wsX3_lightLeft (wsV RX3 62 RX2 yX2_lampHeld wsX2_lampHeld) := goodIn_app (goodIn_of _ (by decide +kernel)) ggX3_lightLeft_X2_lampHeld
set_option maxRecDepth 20000 in
theorem ggX3_lightLeft_X1_chargeAt : GoodIn wsX3_lightLeft wsX1_chargeAt := goodIn_r _ [25, 26, 37, 38, 39, 40, 41, 42, 43] (by decide +kernel) (by decide +kernel)
set_option maxRecDepth 20000 in
theorem gX3_lightLeft_X1_chargeAt : GoodIn wsX3_lightLeft (wsV RX3 127 RX1 yX1_chargeAt wsX1_chargeAt) := goodIn_app (goodIn_of _ (by decide +kernel)) ggX3_lightLeft_X1_chargeAt
theorem dX3_lightLeft_0 : decode cX3_lightLeft 0 = .ok (.aload_n 0, 1) := by decide +kernel
theorem dX3_lightLeft_1 : decode cX3_lightLeft 1 = .ok (.iload_n 1, 1) := by decide +kernel
theorem dX3_lightLeft_2 : decode cX3_lightLeft 2 = .ok (.invokevirtual 59, 3) := by decide +kernel
theorem dX3_lightLeft_5 : decode cX3_lightLeft 5 = .ok (.aload_n 0, 1) := by decide +kernel
theorem dX3_lightLeft_6 : decode cX3_lightLeft 6 = .ok (.getfield 19, 3) := by decide +kernel
theorem dX3_lightLeft_9 : decode cX3_lightLeft 9 = .ok (.iload_n 1, 1) := by decide +kernel
theorem dX3_lightLeft_10 : decode cX3_lightLeft 10 = .ok (.invokevirtual 62, 3) := by decide +kernel
theorem dX3_lightLeft_13 : decode cX3_lightLeft 13 = .ok (.istore_n 2, 1) := by decide +kernel
theorem dX3_lightLeft_14 : decode cX3_lightLeft 14 = .ok (.iload_n 2, 1) := by decide +kernel
theorem dX3_lightLeft_15 : decode cX3_lightLeft 15 = .ok (.iconst (-1), 1) := by decide +kernel
theorem dX3_lightLeft_16 : decode cX3_lightLeft 16 = .ok (.if_icmp .ne 7, 3) := by decide +kernel
theorem dX3_lightLeft_19 : decode cX3_lightLeft 19 = .ok (.iconst (-1), 1) := by decide +kernel
theorem dX3_lightLeft_20 : decode cX3_lightLeft 20 = .ok (.goto 12, 3) := by decide +kernel
theorem dX3_lightLeft_23 : decode cX3_lightLeft 23 = .ok (.aload_n 0, 1) := by decide +kernel
theorem dX3_lightLeft_24 : decode cX3_lightLeft 24 = .ok (.getfield 10, 3) := by decide +kernel
theorem dX3_lightLeft_27 : decode cX3_lightLeft 27 = .ok (.iload_n 2, 1) := by decide +kernel
theorem dX3_lightLeft_28 : decode cX3_lightLeft 28 = .ok (.invokevirtual 127, 3) := by decide +kernel
theorem dX3_lightLeft_31 : decode cX3_lightLeft 31 = .ok (.d2i, 1) := by decide +kernel
theorem dX3_lightLeft_32 : decode cX3_lightLeft 32 = .ok (.ireturn, 1) := by decide +kernel
set_option maxRecDepth 20000 in
theorem ggX3_rackCharge_X1_hundredthsOnRack : GoodIn wsX3_rackCharge wsX1_hundredthsOnRack := goodIn_r _ [6, 7, 8, 9, 10, 11, 16, 17, 18, 19, 20, 21, 22] (by decide +kernel) (by decide +kernel)
set_option maxRecDepth 20000 in
theorem gX3_rackCharge_X1_hundredthsOnRack : GoodIn wsX3_rackCharge (wsV RX3 144 RX1 yX1_hundredthsOnRack wsX1_hundredthsOnRack) := goodIn_app (goodIn_of _ (by decide +kernel)) ggX3_rackCharge_X1_hundredthsOnRack
theorem dX3_rackCharge_0 : decode cX3_rackCharge 0 = .ok (.aload_n 0, 1) := by decide +kernel
theorem dX3_rackCharge_1 : decode cX3_rackCharge 1 = .ok (.getfield 10, 3) := by decide +kernel
theorem dX3_rackCharge_4 : decode cX3_rackCharge 4 = .ok (.invokevirtual 144, 3) := by decide +kernel
theorem dX3_rackCharge_7 : decode cX3_rackCharge 7 = .ok (.ireturn, 1) := by decide +kernel
theorem dX3_checkKind_0 : decode cX3_checkKind 0 = .ok (.iload_n 0, 1) := by decide +kernel
theorem dX3_checkKind_1 : decode cX3_checkKind 1 = .ok (.ifCond .lt 8, 3) := by decide +kernel
theorem dX3_checkKind_4 : decode cX3_checkKind 4 = .ok (.iload_n 0, 1) := by decide +kernel
theorem dX3_checkKind_5 : decode cX3_checkKind 5 = .ok (.iconst 3, 1) := by decide +kernel
theorem dX3_checkKind_6 : decode cX3_checkKind 6 = .ok (.if_icmp .lt 13, 3) := by decide +kernel
theorem dX3_checkKind_9 : decode cX3_checkKind 9 = .ok (.new 113, 3) := by decide +kernel
theorem dX3_checkKind_12 : decode cX3_checkKind 12 = .ok (.dup, 1) := by decide +kernel
theorem dX3_checkKind_13 : decode cX3_checkKind 13 = .ok (.ldc 147, 2) := by decide +kernel
theorem dX3_checkKind_15 : decode cX3_checkKind 15 = .ok (.invokespecial 117, 3) := by decide +kernel
theorem dX3_checkKind_18 : decode cX3_checkKind 18 = .ok (.athrow, 1) := by decide +kernel
theorem dX3_checkKind_19 : decode cX3_checkKind 19 = .ok (.return_, 1) := by decide +kernel
set_option maxRecDepth 20000 in
theorem ggX3_checkMiner_X2_size : GoodIn wsX3_checkMiner wsX2_size := goodIn_r _ [8, 9, 14, 15, 16, 17, 18, 19] (by decide +kernel) (by decide +kernel)
set_option maxRecDepth 20000 in
theorem gX3_checkMiner_X2_size : GoodIn wsX3_checkMiner (wsV RX3 53 RX2 yX2_size wsX2_size) := goodIn_app (goodIn_of _ (by decide +kernel)) ggX3_checkMiner_X2_size
theorem dX3_checkMiner_0 : decode cX3_checkMiner 0 = .ok (.iload_n 1, 1) := by decide +kernel
theorem dX3_checkMiner_1 : decode cX3_checkMiner 1 = .ok (.ifCond .lt 14, 3) := by decide +kernel
theorem dX3_checkMiner_4 : decode cX3_checkMiner 4 = .ok (.iload_n 1, 1) := by decide +kernel
theorem dX3_checkMiner_5 : decode cX3_checkMiner 5 = .ok (.aload_n 0, 1) := by decide +kernel
theorem dX3_checkMiner_6 : decode cX3_checkMiner 6 = .ok (.getfield 19, 3) := by decide +kernel
theorem dX3_checkMiner_9 : decode cX3_checkMiner 9 = .ok (.invokevirtual 53, 3) := by decide +kernel
theorem dX3_checkMiner_12 : decode cX3_checkMiner 12 = .ok (.if_icmp .lt 13, 3) := by decide +kernel
theorem dX3_checkMiner_15 : decode cX3_checkMiner 15 = .ok (.new 149, 3) := by decide +kernel
theorem dX3_checkMiner_18 : decode cX3_checkMiner 18 = .ok (.dup, 1) := by decide +kernel
theorem dX3_checkMiner_19 : decode cX3_checkMiner 19 = .ok (.ldc 151, 2) := by decide +kernel
theorem dX3_checkMiner_21 : decode cX3_checkMiner 21 = .ok (.invokespecial 153, 3) := by decide +kernel
theorem dX3_checkMiner_24 : decode cX3_checkMiner 24 = .ok (.athrow, 1) := by decide +kernel
theorem dX3_checkMiner_25 : decode cX3_checkMiner 25 = .ok (.return_, 1) := by decide +kernel
set_option maxRecDepth 20000 in
theorem ggX3_checkLamp_X1_size : GoodIn wsX3_checkLamp wsX1_size := goodIn_r _ [8, 9, 14, 15, 16, 17, 18, 19, 20] (by decide +kernel) (by decide +kernel)
set_option maxRecDepth 20000 in
theorem gX3_checkLamp_X1_size : GoodIn wsX3_checkLamp (wsV RX3 38 RX1 yX1_size wsX1_size) := goodIn_app (goodIn_of _ (by decide +kernel)) ggX3_checkLamp_X1_size
theorem dX3_checkLamp_0 : decode cX3_checkLamp 0 = .ok (.iload_n 1, 1) := by decide +kernel
theorem dX3_checkLamp_1 : decode cX3_checkLamp 1 = .ok (.ifCond .lt 14, 3) := by decide +kernel
theorem dX3_checkLamp_4 : decode cX3_checkLamp 4 = .ok (.iload_n 1, 1) := by decide +kernel
theorem dX3_checkLamp_5 : decode cX3_checkLamp 5 = .ok (.aload_n 0, 1) := by decide +kernel
theorem dX3_checkLamp_6 : decode cX3_checkLamp 6 = .ok (.getfield 10, 3) := by decide +kernel
theorem dX3_checkLamp_9 : decode cX3_checkLamp 9 = .ok (.invokevirtual 38, 3) := by decide +kernel
theorem dX3_checkLamp_12 : decode cX3_checkLamp 12 = .ok (.if_icmp .lt 13, 3) := by decide +kernel
theorem dX3_checkLamp_15 : decode cX3_checkLamp 15 = .ok (.new 149, 3) := by decide +kernel
theorem dX3_checkLamp_18 : decode cX3_checkLamp 18 = .ok (.dup, 1) := by decide +kernel
theorem dX3_checkLamp_19 : decode cX3_checkLamp 19 = .ok (.ldc 154, 2) := by decide +kernel
theorem dX3_checkLamp_21 : decode cX3_checkLamp 21 = .ok (.invokespecial 153, 3) := by decide +kernel
theorem dX3_checkLamp_24 : decode cX3_checkLamp 24 = .ok (.athrow, 1) := by decide +kernel
theorem dX3_checkLamp_25 : decode cX3_checkLamp 25 = .ok (.return_, 1) := by decide +kernel
end
section
theorem dL_cell_0 : decode cL_cell 0 = .ok (.iload_n 1, 1) := by decide +kernel
theorem dL_cell_1 : decode cL_cell 1 = .ok (.aload_n 0, 1) := by decide +kernel
theorem dL_cell_2 : decode cL_cell 2 = .ok (.arraylength, 1) := by decide +kernel
theorem dL_cell_3 : decode cL_cell 3 = .ok (.if_icmp .ge 9, 3) := by decide +kernel
theorem dL_cell_6 : decode cL_cell 6 = .ok (.aload_n 0, 1) := by decide +kernel
theorem dL_cell_7 : decode cL_cell 7 = .ok (.iload_n 1, 1) := by decide +kernel
theorem dL_cell_8 : decode cL_cell 8 = .ok (.iaload, 1) := by decide +kernel
theorem dL_cell_9 : decode cL_cell 9 = .ok (.goto 9, 3) := by decide +kernel
theorem dL_cell_12 : decode cL_cell 12 = .ok (.ldc 7, 2) := by decide +kernel
theorem dL_cell_14 : decode cL_cell 14 = .ok (.iload_n 1, 1) := by decide +kernel
theorem dL_cell_15 : decode cL_cell 15 = .ok (.iconst 4, 1) := by decide +kernel
theorem dL_cell_16 : decode cL_cell 16 = .ok (.iadd, 1) := by decide +kernel
theorem dL_cell_17 : decode cL_cell 17 = .ok (.imul, 1) := by decide +kernel
theorem dL_cell_18 : decode cL_cell 18 = .ok (.ireturn, 1) := by decide +kernel
theorem dL_low_0 : decode cL_low 0 = .ok (.iload_n 0, 1) := by decide +kernel
theorem dL_low_1 : decode cL_low 1 = .ok (.iconst 1, 1) := by decide +kernel
theorem dL_low_2 : decode cL_low 2 = .ok (.iushr, 1) := by decide +kernel
theorem dL_low_3 : decode cL_low 3 = .ok (.iload_n 1, 1) := by decide +kernel
theorem dL_low_4 : decode cL_low 4 = .ok (.irem, 1) := by decide +kernel
theorem dL_low_5 : decode cL_low 5 = .ok (.ireturn, 1) := by decide +kernel
set_option maxRecDepth 20000 in
theorem ggL_addLamp_X3_addLamp : GoodIn wsL_addLamp wsX3_addLamp := goodIn_ca (goodIn_ca (goodIn_r _ [7, 8, 9, 10, 11, 12, 6, 13, 14, 15, 16, 17, 18, 19, 20, 21, 22, 23, 24, 25, 26, 27, 28, 29, 30, 31, 32, 33, 34, 35, 36, 37, 38, 39, 40, 41, 42, 43, 44, 45, 46] (by decide +kernel) (by decide +kernel)) (goodIn_sub (fun _ h => List.mem_cons_of_mem _ (List.mem_append_left _ (List.mem_append_right _ h))) (by decide +kernel))) (goodIn_sub (fun _ h => List.mem_cons_of_mem _ (List.mem_append_right _ h)) (by decide +kernel))
set_option maxRecDepth 20000 in
theorem gL_addLamp_X3_addLamp : GoodIn wsL_addLamp (wsV RL 8 RX3 yX3_addLamp wsX3_addLamp) := goodIn_app (goodIn_of _ (by decide +kernel)) ggL_addLamp_X3_addLamp
theorem dL_addLamp_0 : decode cL_addLamp 0 = .ok (.aload_n 0, 1) := by decide +kernel
theorem dL_addLamp_1 : decode cL_addLamp 1 = .ok (.iload_n 1, 1) := by decide +kernel
theorem dL_addLamp_2 : decode cL_addLamp 2 = .ok (.invokevirtual 8, 3) := by decide +kernel
theorem dL_addLamp_5 : decode cL_addLamp 5 = .ok (.istore_n 2, 1) := by decide +kernel
theorem dL_addLamp_6 : decode cL_addLamp 6 = .ok (.goto 11, 3) := by decide +kernel
theorem dL_addLamp_9 : decode cL_addLamp 9 = .ok (.astore_n 3, 1) := by decide +kernel
theorem dL_addLamp_10 : decode cL_addLamp 10 = .ok (.bipush (-62), 2) := by decide +kernel
theorem dL_addLamp_12 : decode cL_addLamp 12 = .ok (.ireturn, 1) := by decide +kernel
theorem dL_addLamp_13 : decode cL_addLamp 13 = .ok (.astore_n 3, 1) := by decide +kernel
theorem dL_addLamp_14 : decode cL_addLamp 14 = .ok (.bipush (-63), 2) := by decide +kernel
theorem dL_addLamp_16 : decode cL_addLamp 16 = .ok (.ireturn, 1) := by decide +kernel
theorem dL_addLamp_17 : decode cL_addLamp 17 = .ok (.iload_n 2, 1) := by decide +kernel
theorem dL_addLamp_18 : decode cL_addLamp 18 = .ok (.ireturn, 1) := by decide +kernel
set_option maxRecDepth 20000 in
theorem ggL_addMiner_X3_addMiner : GoodIn wsL_addMiner wsX3_addMiner := goodIn_ca (goodIn_ca (goodIn_r _ [7, 8, 9, 10, 11, 12, 6, 13, 14, 15, 16, 17, 18, 19, 20, 21, 22, 23, 24, 25, 26, 27, 28, 29, 30, 31, 32, 33, 34, 35, 36, 37] (by decide +kernel) (by decide +kernel)) (goodIn_sub (fun _ h => List.mem_cons_of_mem _ (List.mem_append_left _ (List.mem_append_right _ h))) (by decide +kernel))) (goodIn_sub (fun _ h => List.mem_cons_of_mem _ (List.mem_append_right _ h)) (by decide +kernel))
set_option maxRecDepth 20000 in
theorem gL_addMiner_X3_addMiner : GoodIn wsL_addMiner (wsV RL 18 RX3 yX3_addMiner wsX3_addMiner) := goodIn_app (goodIn_of _ (by decide +kernel)) ggL_addMiner_X3_addMiner
theorem dL_addMiner_0 : decode cL_addMiner 0 = .ok (.aload_n 0, 1) := by decide +kernel
theorem dL_addMiner_1 : decode cL_addMiner 1 = .ok (.iload_n 1, 1) := by decide +kernel
theorem dL_addMiner_2 : decode cL_addMiner 2 = .ok (.invokevirtual 18, 3) := by decide +kernel
theorem dL_addMiner_5 : decode cL_addMiner 5 = .ok (.istore_n 2, 1) := by decide +kernel
theorem dL_addMiner_6 : decode cL_addMiner 6 = .ok (.goto 11, 3) := by decide +kernel
theorem dL_addMiner_9 : decode cL_addMiner 9 = .ok (.astore_n 3, 1) := by decide +kernel
theorem dL_addMiner_10 : decode cL_addMiner 10 = .ok (.bipush (-62), 2) := by decide +kernel
theorem dL_addMiner_12 : decode cL_addMiner 12 = .ok (.ireturn, 1) := by decide +kernel
theorem dL_addMiner_13 : decode cL_addMiner 13 = .ok (.astore_n 3, 1) := by decide +kernel
theorem dL_addMiner_14 : decode cL_addMiner 14 = .ok (.bipush (-63), 2) := by decide +kernel
theorem dL_addMiner_16 : decode cL_addMiner 16 = .ok (.ireturn, 1) := by decide +kernel
theorem dL_addMiner_17 : decode cL_addMiner 17 = .ok (.iload_n 2, 1) := by decide +kernel
theorem dL_addMiner_18 : decode cL_addMiner 18 = .ok (.ireturn, 1) := by decide +kernel
set_option maxRecDepth 20000 in
theorem ggL_test_X3_test : GoodIn wsL_test wsX3_test := goodIn_ca (goodIn_ca (goodIn_r _ [7, 8, 9, 10, 11, 12, 13, 6, 14, 15, 16, 17, 18, 19, 20, 21, 22, 23, 24, 25, 26, 27, 28, 29, 30, 31, 32, 33, 34, 35, 36, 37, 38, 39, 40, 41, 42, 43, 44, 45, 46, 47, 48, 49, 50, 51, 52, 53, 54, 55, 56] (by decide +kernel) (by decide +kernel)) (goodIn_sub (fun _ h => List.mem_cons_of_mem _ (List.mem_append_left _ (List.mem_append_right _ h))) (by decide +kernel))) (goodIn_sub (fun _ h => List.mem_cons_of_mem _ (List.mem_append_right _ h)) (by decide +kernel))
set_option maxRecDepth 20000 in
theorem gL_test_X3_test : GoodIn wsL_test (wsV RL 29 RX3 yX3_test wsX3_test) := goodIn_app (goodIn_of _ (by decide +kernel)) ggL_test_X3_test
theorem dL_test_0 : decode cL_test 0 = .ok (.aload_n 0, 1) := by decide +kernel
theorem dL_test_1 : decode cL_test 1 = .ok (.iload_n 1, 1) := by decide +kernel
theorem dL_test_2 : decode cL_test 2 = .ok (.invokevirtual 29, 3) := by decide +kernel
theorem dL_test_5 : decode cL_test 5 = .ok (.istore_n 2, 1) := by decide +kernel
theorem dL_test_6 : decode cL_test 6 = .ok (.goto 11, 3) := by decide +kernel
theorem dL_test_9 : decode cL_test 9 = .ok (.astore_n 3, 1) := by decide +kernel
theorem dL_test_10 : decode cL_test 10 = .ok (.bipush (-61), 2) := by decide +kernel
theorem dL_test_12 : decode cL_test 12 = .ok (.ireturn, 1) := by decide +kernel
theorem dL_test_13 : decode cL_test 13 = .ok (.astore_n 3, 1) := by decide +kernel
theorem dL_test_14 : decode cL_test 14 = .ok (.bipush (-63), 2) := by decide +kernel
theorem dL_test_16 : decode cL_test 16 = .ok (.ireturn, 1) := by decide +kernel
theorem dL_test_17 : decode cL_test 17 = .ok (.iload_n 2, 1) := by decide +kernel
theorem dL_test_18 : decode cL_test 18 = .ok (.ireturn, 1) := by decide +kernel
set_option maxRecDepth 20000 in
theorem ggL_mend_X3_mend : GoodIn wsL_mend wsX3_mend := goodIn_ca (goodIn_ca (goodIn_r _ [7, 8, 9, 10, 11, 12, 13, 6, 14, 15, 16, 17, 18, 19, 20, 21, 22, 23, 24, 25, 26, 27, 28, 29, 30, 31, 32, 33, 34, 35, 36, 37, 38, 39, 40, 41, 42, 43, 44, 45, 46, 47, 48, 49, 50, 51, 52, 53, 54, 55, 56, 57, 58, 59, 60] (by decide +kernel) (by decide +kernel)) (goodIn_sub (fun _ h => List.mem_cons_of_mem _ (List.mem_append_left _ (List.mem_append_right _ h))) (by decide +kernel))) (goodIn_sub (fun _ h => List.mem_cons_of_mem _ (List.mem_append_right _ h)) (by decide +kernel))
set_option maxRecDepth 20000 in
theorem gL_mend_X3_mend : GoodIn wsL_mend (wsV RL 32 RX3 yX3_mend wsX3_mend) := goodIn_app (goodIn_of _ (by decide +kernel)) ggL_mend_X3_mend
theorem dL_mend_0 : decode cL_mend 0 = .ok (.aload_n 0, 1) := by decide +kernel
theorem dL_mend_1 : decode cL_mend 1 = .ok (.iload_n 1, 1) := by decide +kernel
theorem dL_mend_2 : decode cL_mend 2 = .ok (.invokevirtual 32, 3) := by decide +kernel
theorem dL_mend_5 : decode cL_mend 5 = .ok (.istore_n 2, 1) := by decide +kernel
theorem dL_mend_6 : decode cL_mend 6 = .ok (.goto 11, 3) := by decide +kernel
theorem dL_mend_9 : decode cL_mend 9 = .ok (.astore_n 3, 1) := by decide +kernel
theorem dL_mend_10 : decode cL_mend 10 = .ok (.bipush (-61), 2) := by decide +kernel
theorem dL_mend_12 : decode cL_mend 12 = .ok (.ireturn, 1) := by decide +kernel
theorem dL_mend_13 : decode cL_mend 13 = .ok (.astore_n 3, 1) := by decide +kernel
theorem dL_mend_14 : decode cL_mend 14 = .ok (.bipush (-63), 2) := by decide +kernel
theorem dL_mend_16 : decode cL_mend 16 = .ok (.ireturn, 1) := by decide +kernel
theorem dL_mend_17 : decode cL_mend 17 = .ok (.iload_n 2, 1) := by decide +kernel
theorem dL_mend_18 : decode cL_mend 18 = .ok (.ifCond .eq 7, 3) := by decide +kernel
theorem dL_mend_21 : decode cL_mend 21 = .ok (.iconst 1, 1) := by decide +kernel
theorem dL_mend_22 : decode cL_mend 22 = .ok (.goto 4, 3) := by decide +kernel
theorem dL_mend_25 : decode cL_mend 25 = .ok (.iconst 0, 1) := by decide +kernel
theorem dL_mend_26 : decode cL_mend 26 = .ok (.ireturn, 1) := by decide +kernel
set_option maxRecDepth 20000 in
theorem ggL_ready_X3_ready : GoodIn wsL_ready wsX3_ready := goodIn_ca (goodIn_r _ [6, 7, 8, 9, 5, 10, 11, 12, 13, 14, 15, 16, 17, 18, 19, 20, 21, 22, 23, 24, 25, 26, 27, 28, 29, 30, 31, 32, 33, 34, 35, 36, 37] (by decide +kernel) (by decide +kernel)) (goodIn_sub (fun _ h => List.mem_cons_of_mem _ (List.mem_append_right _ h)) (by decide +kernel))
set_option maxRecDepth 20000 in
theorem gL_ready_X3_ready : GoodIn wsL_ready (wsV RL 39 RX3 yX3_ready wsX3_ready) := goodIn_app (goodIn_of _ (by decide +kernel)) ggL_ready_X3_ready
theorem dL_ready_0 : decode cL_ready 0 = .ok (.aload_n 0, 1) := by decide +kernel
theorem dL_ready_1 : decode cL_ready 1 = .ok (.iload_n 1, 1) := by decide +kernel
theorem dL_ready_2 : decode cL_ready 2 = .ok (.invokevirtual 39, 3) := by decide +kernel
theorem dL_ready_5 : decode cL_ready 5 = .ok (.istore_n 2, 1) := by decide +kernel
theorem dL_ready_6 : decode cL_ready 6 = .ok (.goto 7, 3) := by decide +kernel
theorem dL_ready_9 : decode cL_ready 9 = .ok (.astore_n 3, 1) := by decide +kernel
theorem dL_ready_10 : decode cL_ready 10 = .ok (.bipush (-62), 2) := by decide +kernel
theorem dL_ready_12 : decode cL_ready 12 = .ok (.ireturn, 1) := by decide +kernel
theorem dL_ready_13 : decode cL_ready 13 = .ok (.iload_n 2, 1) := by decide +kernel
theorem dL_ready_14 : decode cL_ready 14 = .ok (.ireturn, 1) := by decide +kernel
set_option maxRecDepth 20000 in
theorem ggL_placeOf_X3_placeOf : GoodIn wsL_placeOf wsX3_placeOf := goodIn_ca (goodIn_r _ [6, 7, 8, 9, 10, 5, 11, 12, 13, 14, 15, 16, 17, 18, 19, 20, 21, 22, 23, 24, 25, 26, 27, 28, 29, 30, 31, 32, 33, 34, 35] (by decide +kernel) (by decide +kernel)) (goodIn_sub (fun _ h => List.mem_cons_of_mem _ (List.mem_append_right _ h)) (by decide +kernel))
set_option maxRecDepth 20000 in
theorem gL_placeOf_X3_placeOf : GoodIn wsL_placeOf (wsV RL 42 RX3 yX3_placeOf wsX3_placeOf) := goodIn_app (goodIn_of _ (by decide +kernel)) ggL_placeOf_X3_placeOf
theorem dL_placeOf_0 : decode cL_placeOf 0 = .ok (.aload_n 0, 1) := by decide +kernel
theorem dL_placeOf_1 : decode cL_placeOf 1 = .ok (.iload_n 1, 1) := by decide +kernel
theorem dL_placeOf_2 : decode cL_placeOf 2 = .ok (.invokevirtual 42, 3) := by decide +kernel
theorem dL_placeOf_5 : decode cL_placeOf 5 = .ok (.istore_n 2, 1) := by decide +kernel
theorem dL_placeOf_6 : decode cL_placeOf 6 = .ok (.goto 7, 3) := by decide +kernel
theorem dL_placeOf_9 : decode cL_placeOf 9 = .ok (.astore_n 3, 1) := by decide +kernel
theorem dL_placeOf_10 : decode cL_placeOf 10 = .ok (.bipush (-61), 2) := by decide +kernel
theorem dL_placeOf_12 : decode cL_placeOf 12 = .ok (.ireturn, 1) := by decide +kernel
theorem dL_placeOf_13 : decode cL_placeOf 13 = .ok (.iload_n 2, 1) := by decide +kernel
theorem dL_placeOf_14 : decode cL_placeOf 14 = .ok (.ireturn, 1) := by decide +kernel
set_option maxRecDepth 20000 in
theorem ggL_lampOf_X3_lampOf : GoodIn wsL_lampOf wsX3_lampOf := goodIn_ca (goodIn_r _ [6, 7, 8, 9, 10, 5, 11, 12, 13, 14, 15, 16, 17, 18, 19, 20, 21, 22, 23, 24, 25, 26, 27, 28, 29, 30, 31, 32, 33, 34] (by decide +kernel) (by decide +kernel)) (goodIn_sub (fun _ h => List.mem_cons_of_mem _ (List.mem_append_right _ h)) (by decide +kernel))
set_option maxRecDepth 20000 in
theorem gL_lampOf_X3_lampOf : GoodIn wsL_lampOf (wsV RL 45 RX3 yX3_lampOf wsX3_lampOf) := goodIn_app (goodIn_of _ (by decide +kernel)) ggL_lampOf_X3_lampOf
theorem dL_lampOf_0 : decode cL_lampOf 0 = .ok (.aload_n 0, 1) := by decide +kernel
theorem dL_lampOf_1 : decode cL_lampOf 1 = .ok (.iload_n 1, 1) := by decide +kernel
theorem dL_lampOf_2 : decode cL_lampOf 2 = .ok (.invokevirtual 45, 3) := by decide +kernel
theorem dL_lampOf_5 : decode cL_lampOf 5 = .ok (.istore_n 2, 1) := by decide +kernel
theorem dL_lampOf_6 : decode cL_lampOf 6 = .ok (.goto 7, 3) := by decide +kernel
theorem dL_lampOf_9 : decode cL_lampOf 9 = .ok (.astore_n 3, 1) := by decide +kernel
theorem dL_lampOf_10 : decode cL_lampOf 10 = .ok (.bipush (-61), 2) := by decide +kernel
theorem dL_lampOf_12 : decode cL_lampOf 12 = .ok (.ireturn, 1) := by decide +kernel
theorem dL_lampOf_13 : decode cL_lampOf 13 = .ok (.iload_n 2, 1) := by decide +kernel
theorem dL_lampOf_14 : decode cL_lampOf 14 = .ok (.ireturn, 1) := by decide +kernel
theorem dL_fresh_0 : decode cL_fresh 0 = .ok (.ldc2_w 48, 3) := by decide +kernel
theorem dL_fresh_3 : decode cL_fresh 3 = .ok (.ldc2_w 50, 3) := by decide +kernel
theorem dL_fresh_6 : decode cL_fresh 6 = .ok (.iload_n 0, 1) := by decide +kernel
theorem dL_fresh_7 : decode cL_fresh 7 = .ok (.i2d, 1) := by decide +kernel
theorem dL_fresh_8 : decode cL_fresh 8 = .ok (.dmul, 1) := by decide +kernel
theorem dL_fresh_9 : decode cL_fresh 9 = .ok (.dadd, 1) := by decide +kernel
theorem dL_fresh_10 : decode cL_fresh 10 = .ok (.dreturn, 1) := by decide +kernel
set_option maxRecDepth 20000 in
theorem ggL_isRead_X3_lampOf : GoodIn wsL_isRead wsX3_lampOf := goodIn_ca (goodIn_r _ [5, 6, 7, 8, 9, 4, 10, 11, 12, 13, 14, 15, 16, 17, 18, 19, 20, 21, 22, 23, 79, 80, 81, 82, 83, 84, 85, 86, 87, 88] (by decide +kernel) (by decide +kernel)) (goodIn_sub (fun _ h => List.mem_cons_of_mem _ (List.mem_append_right _ h)) (by decide +kernel))
set_option maxRecDepth 20000 in
theorem gL_isRead_X3_lampOf : GoodIn wsL_isRead (wsV RL 45 RX3 yX3_lampOf wsX3_lampOf) := goodIn_app (goodIn_of _ (by decide +kernel)) ggL_isRead_X3_lampOf
set_option maxRecDepth 20000 in
theorem ggL_isRead_X3_hoursBelow : GoodIn wsL_isRead wsX3_hoursBelow := goodIn_ca (goodIn_r _ [27, 6, 28, 7, 8, 9, 4, 10, 11, 12, 13, 14, 15, 16, 17, 18, 19, 20, 21, 22, 23, 29, 30, 31, 32, 33, 79, 80, 81, 82, 83, 84, 85, 86, 87, 88] (by decide +kernel) (by decide +kernel)) (goodIn_sub (fun _ h => List.mem_cons_of_mem _ (List.mem_append_right _ h)) (by decide +kernel))
set_option maxRecDepth 20000 in
theorem gL_isRead_X3_hoursBelow : GoodIn wsL_isRead (wsV RL 66 RX3 yX3_hoursBelow wsX3_hoursBelow) := goodIn_app (goodIn_of _ (by decide +kernel)) ggL_isRead_X3_hoursBelow
set_option maxRecDepth 20000 in
theorem ggL_isRead_X3_board : GoodIn wsL_isRead wsX3_board := goodIn_r _ [37, 6, 38, 39, 40, 16, 41, 18, 23, 42, 43, 44, 45, 46, 79, 80, 81, 82, 83, 84, 85, 86, 87, 88] (by decide +kernel) (by decide +kernel)
set_option maxRecDepth 20000 in
theorem gL_isRead_X3_board : GoodIn wsL_isRead (wsV RL 69 RX3 yX3_board wsX3_board) := goodIn_app (goodIn_of _ (by decide +kernel)) ggL_isRead_X3_board
set_option maxRecDepth 20000 in
theorem ggL_isRead_X3_alarm : GoodIn wsL_isRead wsX3_alarm := goodIn_r _ [50, 51, 52, 53, 54, 55, 56, 57, 58, 59, 60, 61, 62, 63, 64, 65, 79, 80, 81, 82, 89] (by decide +kernel) (by decide +kernel)
set_option maxRecDepth 20000 in
theorem gL_isRead_X3_alarm : GoodIn wsL_isRead (wsV RL 72 RX3 yX3_alarm wsX3_alarm) := goodIn_app (goodIn_of _ (by decide +kernel)) ggL_isRead_X3_alarm
set_option maxRecDepth 20000 in
theorem ggL_isRead_X3_below : GoodIn wsL_isRead wsX3_below := goodIn_r _ [69, 6, 70, 71, 72, 16, 73, 18, 23, 79, 80, 81, 82, 83, 84, 85, 86, 87, 88] (by decide +kernel) (by decide +kernel)
set_option maxRecDepth 20000 in
theorem gL_isRead_X3_below : GoodIn wsL_isRead (wsV RL 75 RX3 yX3_below wsX3_below) := goodIn_app (goodIn_of _ (by decide +kernel)) ggL_isRead_X3_below
set_option maxRecDepth 20000 in
theorem ggL_isRead_L_lampOf : GoodIn wsL_isRead wsL_lampOf := goodIn_ca (goodIn_r _ [77, 78, 1, 2, 3, 4, 5, 6, 7, 8, 9, 10, 11, 12, 13, 14, 15, 16, 17, 18, 19, 20, 21, 22, 23, 79, 80, 81, 82, 83, 84, 85, 86, 87, 88] (by decide +kernel) (by decide +kernel)) (goodIn_sub (fun _ h => List.mem_cons_of_mem _ (List.mem_append_right _ h)) (by decide +kernel))
set_option maxRecDepth 20000 in
theorem gL_isRead_L_lampOf : GoodIn wsL_isRead (va_wsS RL 79 yL_lampOf wsL_lampOf) := goodIn_app (goodIn_of _ (by decide +kernel)) ggL_isRead_L_lampOf
theorem dL_isRead_0 : decode cL_isRead 0 = .ok (.iconst 0, 1) := by decide +kernel
theorem dL_isRead_1 : decode cL_isRead 1 = .ok (.istore 7, 2) := by decide +kernel
theorem dL_isRead_3 : decode cL_isRead 3 = .ok (.iconst 0, 1) := by decide +kernel
theorem dL_isRead_4 : decode cL_isRead 4 = .ok (.istore 8, 2) := by decide +kernel
theorem dL_isRead_6 : decode cL_isRead 6 = .ok (.iconst 0, 1) := by decide +kernel
theorem dL_isRead_7 : decode cL_isRead 7 = .ok (.istore 9, 2) := by decide +kernel
theorem dL_isRead_9 : decode cL_isRead 9 = .ok (.iload 9, 2) := by decide +kernel
theorem dL_isRead_11 : decode cL_isRead 11 = .ok (.aload 6, 2) := by decide +kernel
theorem dL_isRead_13 : decode cL_isRead 13 = .ok (.iconst 1, 1) := by decide +kernel
theorem dL_isRead_14 : decode cL_isRead 14 = .ok (.iaload, 1) := by decide +kernel
theorem dL_isRead_15 : decode cL_isRead 15 = .ok (.if_icmp .ge 476, 3) := by decide +kernel
theorem dL_isRead_18 : decode cL_isRead 18 = .ok (.aload_n 0, 1) := by decide +kernel
theorem dL_isRead_19 : decode cL_isRead 19 = .ok (.iload 9, 2) := by decide +kernel
theorem dL_isRead_21 : decode cL_isRead 21 = .ok (.invokevirtual 45, 3) := by decide +kernel
theorem dL_isRead_24 : decode cL_isRead 24 = .ok (.aload_n 1, 1) := by decide +kernel
theorem dL_isRead_25 : decode cL_isRead 25 = .ok (.iload 9, 2) := by decide +kernel
theorem dL_isRead_27 : decode cL_isRead 27 = .ok (.iaload, 1) := by decide +kernel
theorem dL_isRead_28 : decode cL_isRead 28 = .ok (.iconst 1, 1) := by decide +kernel
theorem dL_isRead_29 : decode cL_isRead 29 = .ok (.isub, 1) := by decide +kernel
theorem dL_isRead_30 : decode cL_isRead 30 = .ok (.if_icmp .ne 32, 3) := by decide +kernel
theorem dL_isRead_33 : decode cL_isRead 33 = .ok (.aload_n 0, 1) := by decide +kernel
theorem dL_isRead_34 : decode cL_isRead 34 = .ok (.iload 9, 2) := by decide +kernel
theorem dL_isRead_36 : decode cL_isRead 36 = .ok (.invokevirtual 66, 3) := by decide +kernel
theorem dL_isRead_39 : decode cL_isRead 39 = .ok (.aload_n 1, 1) := by decide +kernel
theorem dL_isRead_40 : decode cL_isRead 40 = .ok (.iload 9, 2) := by decide +kernel
theorem dL_isRead_42 : decode cL_isRead 42 = .ok (.iaload, 1) := by decide +kernel
theorem dL_isRead_43 : decode cL_isRead 43 = .ok (.ifCond .ne 7, 3) := by decide +kernel
theorem dL_isRead_46 : decode cL_isRead 46 = .ok (.iconst (-1), 1) := by decide +kernel
theorem dL_isRead_47 : decode cL_isRead 47 = .ok (.goto 12, 3) := by decide +kernel
theorem dL_isRead_50 : decode cL_isRead 50 = .ok (.aload 6, 2) := by decide +kernel
theorem dL_isRead_52 : decode cL_isRead 52 = .ok (.iconst 2, 1) := by decide +kernel
theorem dL_isRead_53 : decode cL_isRead 53 = .ok (.iaload, 1) := by decide +kernel
theorem dL_isRead_54 : decode cL_isRead 54 = .ok (.aload_n 3, 1) := by decide +kernel
theorem dL_isRead_55 : decode cL_isRead 55 = .ok (.iload 9, 2) := by decide +kernel
theorem dL_isRead_57 : decode cL_isRead 57 = .ok (.iaload, 1) := by decide +kernel
theorem dL_isRead_58 : decode cL_isRead 58 = .ok (.isub, 1) := by decide +kernel
theorem dL_isRead_59 : decode cL_isRead 59 = .ok (.if_icmp .eq 5, 3) := by decide +kernel
theorem dL_isRead_62 : decode cL_isRead 62 = .ok (.iconst 0, 1) := by decide +kernel
theorem dL_isRead_63 : decode cL_isRead 63 = .ok (.ireturn, 1) := by decide +kernel
theorem dL_isRead_64 : decode cL_isRead 64 = .ok (.aload_n 1, 1) := by decide +kernel
theorem dL_isRead_65 : decode cL_isRead 65 = .ok (.iload 9, 2) := by decide +kernel
theorem dL_isRead_67 : decode cL_isRead 67 = .ok (.iaload, 1) := by decide +kernel
theorem dL_isRead_68 : decode cL_isRead 68 = .ok (.ifCond .ne 6, 3) := by decide +kernel
theorem dL_isRead_71 : decode cL_isRead 71 = .ok (.goto 414, 3) := by decide +kernel
theorem dL_isRead_74 : decode cL_isRead 74 = .ok (.iinc 7 1, 3) := by decide +kernel
theorem dL_isRead_485 : decode cL_isRead 485 = .ok (.iinc 9 1, 3) := by decide +kernel
theorem dL_isRead_488 : decode cL_isRead 488 = .ok (.goto (-479), 3) := by decide +kernel
theorem dL_isRead_491 : decode cL_isRead 491 = .ok (.aload_n 0, 1) := by decide +kernel
theorem dL_isRead_492 : decode cL_isRead 492 = .ok (.invokevirtual 75, 3) := by decide +kernel
theorem dL_isRead_495 : decode cL_isRead 495 = .ok (.iload 7, 2) := by decide +kernel
theorem dL_isRead_497 : decode cL_isRead 497 = .ok (.if_icmp .ne 58, 3) := by decide +kernel
theorem dL_isRead_500 : decode cL_isRead 500 = .ok (.aload_n 0, 1) := by decide +kernel
theorem dL_isRead_501 : decode cL_isRead 501 = .ok (.iload 7, 2) := by decide +kernel
theorem dL_isRead_503 : decode cL_isRead 503 = .ok (.invokevirtual 69, 3) := by decide +kernel
theorem dL_isRead_506 : decode cL_isRead 506 = .ok (.iconst (-1), 1) := by decide +kernel
theorem dL_isRead_507 : decode cL_isRead 507 = .ok (.if_icmp .ne 48, 3) := by decide +kernel
theorem dL_isRead_510 : decode cL_isRead 510 = .ok (.aload_n 0, 1) := by decide +kernel
theorem dL_isRead_511 : decode cL_isRead 511 = .ok (.iconst (-1), 1) := by decide +kernel
theorem dL_isRead_512 : decode cL_isRead 512 = .ok (.invokevirtual 69, 3) := by decide +kernel
theorem dL_isRead_515 : decode cL_isRead 515 = .ok (.iconst (-1), 1) := by decide +kernel
theorem dL_isRead_516 : decode cL_isRead 516 = .ok (.if_icmp .ne 39, 3) := by decide +kernel
theorem dL_isRead_519 : decode cL_isRead 519 = .ok (.aload_n 0, 1) := by decide +kernel
theorem dL_isRead_520 : decode cL_isRead 520 = .ok (.iload 8, 2) := by decide +kernel
theorem dL_isRead_522 : decode cL_isRead 522 = .ok (.invokevirtual 72, 3) := by decide +kernel
theorem dL_isRead_525 : decode cL_isRead 525 = .ok (.iconst (-1), 1) := by decide +kernel
theorem dL_isRead_526 : decode cL_isRead 526 = .ok (.if_icmp .ne 29, 3) := by decide +kernel
theorem dL_isRead_529 : decode cL_isRead 529 = .ok (.aload_n 0, 1) := by decide +kernel
theorem dL_isRead_530 : decode cL_isRead 530 = .ok (.iconst (-1), 1) := by decide +kernel
theorem dL_isRead_531 : decode cL_isRead 531 = .ok (.invokevirtual 72, 3) := by decide +kernel
theorem dL_isRead_534 : decode cL_isRead 534 = .ok (.iconst (-1), 1) := by decide +kernel
theorem dL_isRead_535 : decode cL_isRead 535 = .ok (.if_icmp .ne 20, 3) := by decide +kernel
theorem dL_isRead_538 : decode cL_isRead 538 = .ok (.aload_n 0, 1) := by decide +kernel
theorem dL_isRead_539 : decode cL_isRead 539 = .ok (.aload 6, 2) := by decide +kernel
theorem dL_isRead_541 : decode cL_isRead 541 = .ok (.iconst 1, 1) := by decide +kernel
theorem dL_isRead_542 : decode cL_isRead 542 = .ok (.iaload, 1) := by decide +kernel
theorem dL_isRead_543 : decode cL_isRead 543 = .ok (.invokestatic 79, 3) := by decide +kernel
theorem dL_isRead_546 : decode cL_isRead 546 = .ok (.bipush (-61), 2) := by decide +kernel
theorem dL_isRead_548 : decode cL_isRead 548 = .ok (.if_icmp .ne 7, 3) := by decide +kernel
theorem dL_isRead_551 : decode cL_isRead 551 = .ok (.iconst 1, 1) := by decide +kernel
theorem dL_isRead_552 : decode cL_isRead 552 = .ok (.goto 4, 3) := by decide +kernel
theorem dL_isRead_555 : decode cL_isRead 555 = .ok (.iconst 0, 1) := by decide +kernel
theorem dL_isRead_556 : decode cL_isRead 556 = .ok (.ireturn, 1) := by decide +kernel
set_option maxRecDepth 20000 in
theorem ggL_isRacked_X3_placeOf : GoodIn wsL_isRacked wsX3_placeOf := goodIn_ca (goodIn_r _ [7, 8, 9, 10, 11, 6, 12, 13, 14, 15, 16, 17, 18, 19, 20, 21, 22, 23, 24, 25, 123, 124, 125, 126, 127, 128, 129, 130, 131, 132, 133] (by decide +kernel) (by decide +kernel)) (goodIn_sub (fun _ h => List.mem_cons_of_mem _ (List.mem_append_left _ (List.mem_append_right _ h))) (by decide +kernel))
set_option maxRecDepth 20000 in
theorem gL_isRacked_X3_placeOf : GoodIn wsL_isRacked (wsV RL 42 RX3 yX3_placeOf wsX3_placeOf) := goodIn_app (goodIn_of _ (by decide +kernel)) ggL_isRacked_X3_placeOf
set_option maxRecDepth 20000 in
theorem ggL_isRacked_X3_turnsOf : GoodIn wsL_isRacked wsX3_turnsOf := goodIn_ca (goodIn_r _ [29, 8, 9, 10, 11, 6, 12, 13, 14, 15, 16, 17, 18, 19, 20, 30, 31, 32, 33, 34, 123, 124, 125, 126, 127, 128, 129, 130, 131, 132, 133] (by decide +kernel) (by decide +kernel)) (goodIn_sub (fun _ h => List.mem_cons_of_mem _ (List.mem_append_left _ (List.mem_append_right _ h))) (by decide +kernel))
set_option maxRecDepth 20000 in
theorem gL_isRacked_X3_turnsOf : GoodIn wsL_isRacked (wsV RL 82 RX3 yX3_turnsOf wsX3_turnsOf) := goodIn_app (goodIn_of _ (by decide +kernel)) ggL_isRacked_X3_turnsOf
set_option maxRecDepth 20000 in
theorem ggL_isRacked_X3_chargeOf : GoodIn wsL_isRacked wsX3_chargeOf := goodIn_ca (goodIn_r _ [38, 8, 9, 10, 11, 6, 12, 13, 14, 15, 16, 17, 18, 19, 20, 39, 40, 41, 42, 43, 123, 124, 125, 126, 127, 128, 129, 130, 131, 132, 133] (by decide +kernel) (by decide +kernel)) (goodIn_sub (fun _ h => List.mem_cons_of_mem _ (List.mem_append_left _ (List.mem_append_right _ h))) (by decide +kernel))
set_option maxRecDepth 20000 in
theorem gL_isRacked_X3_chargeOf : GoodIn wsL_isRacked (wsV RL 85 RX3 yX3_chargeOf wsX3_chargeOf) := goodIn_app (goodIn_of _ (by decide +kernel)) ggL_isRacked_X3_chargeOf
set_option maxRecDepth 20000 in
theorem ggL_isRacked_X3_capacityOf : GoodIn wsL_isRacked wsX3_capacityOf := goodIn_ca (goodIn_r _ [47, 8, 9, 10, 11, 6, 12, 13, 14, 15, 16, 17, 18, 19, 20, 48, 49, 50, 51, 52, 123, 124, 125, 126, 127, 128, 129, 130, 131, 132, 133] (by decide +kernel) (by decide +kernel)) (goodIn_sub (fun _ h => List.mem_cons_of_mem _ (List.mem_append_left _ (List.mem_append_right _ h))) (by decide +kernel))
set_option maxRecDepth 20000 in
theorem gL_isRacked_X3_capacityOf : GoodIn wsL_isRacked (wsV RL 88 RX3 yX3_capacityOf wsX3_capacityOf) := goodIn_app (goodIn_of _ (by decide +kernel)) ggL_isRacked_X3_capacityOf
set_option maxRecDepth 20000 in
theorem ggL_isRacked_L_ready : GoodIn wsL_isRacked wsL_ready := goodIn_ca (goodIn_r _ [56, 57, 58, 59, 60, 6, 61, 8, 62, 63, 64, 65, 66, 67, 68, 69, 18, 70, 20, 71, 72, 73, 74, 75, 25, 43, 76, 123, 124, 125, 126, 127, 128, 129, 130, 131, 132, 133] (by decide +kernel) (by decide +kernel)) (goodIn_sub (fun _ h => List.mem_cons_of_mem _ (List.mem_append_right _ h)) (by decide +kernel))
set_option maxRecDepth 20000 in
theorem gL_isRacked_L_ready : GoodIn wsL_isRacked (va_wsS RL 91 yL_ready wsL_ready) := goodIn_app (goodIn_of _ (by decide +kernel)) ggL_isRacked_L_ready
set_option maxRecDepth 20000 in
theorem ggL_isRacked_X3_lightLeft : GoodIn wsL_isRacked wsX3_lightLeft := goodIn_ca (goodIn_r _ [80, 81, 8, 82, 83, 84, 6, 85, 13, 14, 86, 87, 88, 89, 90, 91, 92, 93, 94, 95, 96, 39, 40, 41, 18, 42, 43, 123, 124, 125, 126, 134, 135, 136, 137, 138, 139, 127, 128, 129, 130, 131, 132, 133] (by decide +kernel) (by decide +kernel)) (goodIn_sub (fun _ h => List.mem_cons_of_mem _ (List.mem_append_left _ (List.mem_append_right _ h))) (by decide +kernel))
set_option maxRecDepth 20000 in
theorem gL_isRacked_X3_lightLeft : GoodIn wsL_isRacked (wsV RL 93 RX3 yX3_lightLeft wsX3_lightLeft) := goodIn_app (goodIn_of _ (by decide +kernel)) ggL_isRacked_X3_lightLeft
set_option maxRecDepth 20000 in
theorem ggL_isRacked_X3_spares : GoodIn wsL_isRacked wsX3_spares := goodIn_r _ [100, 81, 8, 86, 87, 88, 89, 90, 91, 92, 93, 94, 95, 96, 101, 102, 103, 18, 104, 75, 105, 106, 107, 108, 109, 123, 124, 125, 126, 134, 135, 136, 137, 138, 139, 127, 128, 129, 130, 131, 132, 133] (by decide +kernel) (by decide +kernel)
set_option maxRecDepth 20000 in
theorem gL_isRacked_X3_spares : GoodIn wsL_isRacked (wsV RL 96 RX3 yX3_spares wsX3_spares) := goodIn_app (goodIn_of _ (by decide +kernel)) ggL_isRacked_X3_spares
set_option maxRecDepth 20000 in
theorem ggL_isRacked_X3_rackCharge : GoodIn wsL_isRacked wsX3_rackCharge := goodIn_r _ [113, 8, 114, 115, 116, 18, 117, 20, 25, 43, 52, 118, 123, 124, 125, 126, 127, 128, 129, 130, 131, 132, 133] (by decide +kernel) (by decide +kernel)
set_option maxRecDepth 20000 in
theorem gL_isRacked_X3_rackCharge : GoodIn wsL_isRacked (wsV RL 99 RX3 yX3_rackCharge wsX3_rackCharge) := goodIn_app (goodIn_of _ (by decide +kernel)) ggL_isRacked_X3_rackCharge
set_option maxRecDepth 20000 in
theorem ggL_isRacked_L_placeOf : GoodIn wsL_isRacked wsL_placeOf := goodIn_ca (goodIn_r _ [121, 122, 3, 4, 5, 6, 7, 8, 9, 10, 11, 12, 13, 14, 15, 16, 17, 18, 19, 20, 21, 22, 23, 24, 25, 123, 124, 125, 126, 127, 128, 129, 130, 131, 132, 133] (by decide +kernel) (by decide +kernel)) (goodIn_sub (fun _ h => List.mem_cons_of_mem _ (List.mem_append_left _ (List.mem_append_right _ h))) (by decide +kernel))
set_option maxRecDepth 20000 in
theorem gL_isRacked_L_placeOf : GoodIn wsL_isRacked (va_wsS RL 104 yL_placeOf wsL_placeOf) := goodIn_app (goodIn_of _ (by decide +kernel)) ggL_isRacked_L_placeOf
theorem dL_isRacked_0 : decode cL_isRacked 0 = .ok (.dconst 0, 1) := by decide +kernel
theorem dL_isRacked_1 : decode cL_isRacked 1 = .ok (.dstore 7, 2) := by decide +kernel
theorem dL_isRacked_3 : decode cL_isRacked 3 = .ok (.dconst 0, 1) := by decide +kernel
theorem dL_isRacked_4 : decode cL_isRacked 4 = .ok (.dstore 9, 2) := by decide +kernel
theorem dL_isRacked_6 : decode cL_isRacked 6 = .ok (.iconst 0, 1) := by decide +kernel
theorem dL_isRacked_7 : decode cL_isRacked 7 = .ok (.istore 11, 2) := by decide +kernel
theorem dL_isRacked_9 : decode cL_isRacked 9 = .ok (.iload 11, 2) := by decide +kernel
theorem dL_isRacked_11 : decode cL_isRacked 11 = .ok (.aload 6, 2) := by decide +kernel
theorem dL_isRacked_13 : decode cL_isRacked 13 = .ok (.iconst 0, 1) := by decide +kernel
theorem dL_isRacked_14 : decode cL_isRacked 14 = .ok (.iaload, 1) := by decide +kernel
theorem dL_isRacked_15 : decode cL_isRacked 15 = .ok (.if_icmp .ge 107, 3) := by decide +kernel
theorem dL_isRacked_18 : decode cL_isRacked 18 = .ok (.aload_n 0, 1) := by decide +kernel
theorem dL_isRacked_19 : decode cL_isRacked 19 = .ok (.iload 11, 2) := by decide +kernel
theorem dL_isRacked_21 : decode cL_isRacked 21 = .ok (.invokevirtual 42, 3) := by decide +kernel
theorem dL_isRacked_24 : decode cL_isRacked 24 = .ok (.aload_n 1, 1) := by decide +kernel
theorem dL_isRacked_25 : decode cL_isRacked 25 = .ok (.iload 11, 2) := by decide +kernel
theorem dL_isRacked_27 : decode cL_isRacked 27 = .ok (.iaload, 1) := by decide +kernel
theorem dL_isRacked_28 : decode cL_isRacked 28 = .ok (.iconst 2, 1) := by decide +kernel
theorem dL_isRacked_29 : decode cL_isRacked 29 = .ok (.ishr, 1) := by decide +kernel
theorem dL_isRacked_30 : decode cL_isRacked 30 = .ok (.iconst 3, 1) := by decide +kernel
theorem dL_isRacked_31 : decode cL_isRacked 31 = .ok (.iand, 1) := by decide +kernel
theorem dL_isRacked_32 : decode cL_isRacked 32 = .ok (.if_icmp .ne 50, 3) := by decide +kernel
theorem dL_isRacked_35 : decode cL_isRacked 35 = .ok (.aload_n 0, 1) := by decide +kernel
theorem dL_isRacked_36 : decode cL_isRacked 36 = .ok (.iload 11, 2) := by decide +kernel
theorem dL_isRacked_38 : decode cL_isRacked 38 = .ok (.invokevirtual 82, 3) := by decide +kernel
theorem dL_isRacked_41 : decode cL_isRacked 41 = .ok (.aload_n 1, 1) := by decide +kernel
theorem dL_isRacked_42 : decode cL_isRacked 42 = .ok (.iload 11, 2) := by decide +kernel
theorem dL_isRacked_44 : decode cL_isRacked 44 = .ok (.iaload, 1) := by decide +kernel
theorem dL_isRacked_45 : decode cL_isRacked 45 = .ok (.iconst 4, 1) := by decide +kernel
theorem dL_isRacked_46 : decode cL_isRacked 46 = .ok (.ishr, 1) := by decide +kernel
theorem dL_isRacked_47 : decode cL_isRacked 47 = .ok (.sipush 255, 3) := by decide +kernel
theorem dL_isRacked_50 : decode cL_isRacked 50 = .ok (.iand, 1) := by decide +kernel
theorem dL_isRacked_51 : decode cL_isRacked 51 = .ok (.if_icmp .ne 31, 3) := by decide +kernel
theorem dL_isRacked_54 : decode cL_isRacked 54 = .ok (.aload_n 0, 1) := by decide +kernel
theorem dL_isRacked_55 : decode cL_isRacked 55 = .ok (.iload 11, 2) := by decide +kernel
theorem dL_isRacked_57 : decode cL_isRacked 57 = .ok (.invokevirtual 85, 3) := by decide +kernel
theorem dL_isRacked_60 : decode cL_isRacked 60 = .ok (.aload_n 2, 1) := by decide +kernel
theorem dL_isRacked_61 : decode cL_isRacked 61 = .ok (.iload 11, 2) := by decide +kernel
theorem dL_isRacked_63 : decode cL_isRacked 63 = .ok (.daload, 1) := by decide +kernel
theorem dL_isRacked_64 : decode cL_isRacked 64 = .ok (.dcmp .l, 1) := by decide +kernel
theorem dL_isRacked_65 : decode cL_isRacked 65 = .ok (.ifCond .ne 17, 3) := by decide +kernel
theorem dL_isRacked_68 : decode cL_isRacked 68 = .ok (.aload_n 0, 1) := by decide +kernel
theorem dL_isRacked_69 : decode cL_isRacked 69 = .ok (.iload 11, 2) := by decide +kernel
theorem dL_isRacked_71 : decode cL_isRacked 71 = .ok (.invokevirtual 88, 3) := by decide +kernel
theorem dL_isRacked_74 : decode cL_isRacked 74 = .ok (.aload_n 3, 1) := by decide +kernel
theorem dL_isRacked_75 : decode cL_isRacked 75 = .ok (.iload 11, 2) := by decide +kernel
theorem dL_isRacked_77 : decode cL_isRacked 77 = .ok (.daload, 1) := by decide +kernel
theorem dL_isRacked_78 : decode cL_isRacked 78 = .ok (.dcmp .l, 1) := by decide +kernel
theorem dL_isRacked_79 : decode cL_isRacked 79 = .ok (.ifCond .eq 5, 3) := by decide +kernel
theorem dL_isRacked_82 : decode cL_isRacked 82 = .ok (.iconst 0, 1) := by decide +kernel
theorem dL_isRacked_83 : decode cL_isRacked 83 = .ok (.ireturn, 1) := by decide +kernel
theorem dL_isRacked_84 : decode cL_isRacked 84 = .ok (.aload_n 1, 1) := by decide +kernel
theorem dL_isRacked_85 : decode cL_isRacked 85 = .ok (.iload 11, 2) := by decide +kernel
theorem dL_isRacked_87 : decode cL_isRacked 87 = .ok (.iaload, 1) := by decide +kernel
theorem dL_isRacked_88 : decode cL_isRacked 88 = .ok (.iconst 2, 1) := by decide +kernel
theorem dL_isRacked_89 : decode cL_isRacked 89 = .ok (.ishr, 1) := by decide +kernel
theorem dL_isRacked_90 : decode cL_isRacked 90 = .ok (.iconst 3, 1) := by decide +kernel
theorem dL_isRacked_91 : decode cL_isRacked 91 = .ok (.iand, 1) := by decide +kernel
theorem dL_isRacked_92 : decode cL_isRacked 92 = .ok (.ifCond .le 6, 3) := by decide +kernel
theorem dL_isRacked_95 : decode cL_isRacked 95 = .ok (.goto 21, 3) := by decide +kernel
theorem dL_isRacked_98 : decode cL_isRacked 98 = .ok (.dload 7, 2) := by decide +kernel
theorem dL_isRacked_100 : decode cL_isRacked 100 = .ok (.aload_n 2, 1) := by decide +kernel
theorem dL_isRacked_101 : decode cL_isRacked 101 = .ok (.iload 11, 2) := by decide +kernel
theorem dL_isRacked_103 : decode cL_isRacked 103 = .ok (.daload, 1) := by decide +kernel
theorem dL_isRacked_104 : decode cL_isRacked 104 = .ok (.dadd, 1) := by decide +kernel
theorem dL_isRacked_105 : decode cL_isRacked 105 = .ok (.dstore 7, 2) := by decide +kernel
theorem dL_isRacked_107 : decode cL_isRacked 107 = .ok (.dload 9, 2) := by decide +kernel
theorem dL_isRacked_109 : decode cL_isRacked 109 = .ok (.aload_n 3, 1) := by decide +kernel
theorem dL_isRacked_110 : decode cL_isRacked 110 = .ok (.iload 11, 2) := by decide +kernel
theorem dL_isRacked_112 : decode cL_isRacked 112 = .ok (.daload, 1) := by decide +kernel
theorem dL_isRacked_113 : decode cL_isRacked 113 = .ok (.dadd, 1) := by decide +kernel
theorem dL_isRacked_114 : decode cL_isRacked 114 = .ok (.dstore 9, 2) := by decide +kernel
theorem dL_isRacked_116 : decode cL_isRacked 116 = .ok (.iinc 11 1, 3) := by decide +kernel
theorem dL_isRacked_119 : decode cL_isRacked 119 = .ok (.goto (-110), 3) := by decide +kernel
theorem dL_isRacked_122 : decode cL_isRacked 122 = .ok (.iconst 0, 1) := by decide +kernel
theorem dL_isRacked_123 : decode cL_isRacked 123 = .ok (.istore 11, 2) := by decide +kernel
theorem dL_isRacked_125 : decode cL_isRacked 125 = .ok (.iload 11, 2) := by decide +kernel
theorem dL_isRacked_127 : decode cL_isRacked 127 = .ok (.iconst 3, 1) := by decide +kernel
theorem dL_isRacked_128 : decode cL_isRacked 128 = .ok (.if_icmp .ge 76, 3) := by decide +kernel
theorem dL_isRacked_131 : decode cL_isRacked 131 = .ok (.iconst 0, 1) := by decide +kernel
theorem dL_isRacked_132 : decode cL_isRacked 132 = .ok (.istore 12, 2) := by decide +kernel
theorem dL_isRacked_134 : decode cL_isRacked 134 = .ok (.iconst 0, 1) := by decide +kernel
theorem dL_isRacked_135 : decode cL_isRacked 135 = .ok (.istore 13, 2) := by decide +kernel
theorem dL_isRacked_137 : decode cL_isRacked 137 = .ok (.iload 13, 2) := by decide +kernel
theorem dL_isRacked_139 : decode cL_isRacked 139 = .ok (.aload 6, 2) := by decide +kernel
theorem dL_isRacked_141 : decode cL_isRacked 141 = .ok (.iconst 0, 1) := by decide +kernel
theorem dL_isRacked_142 : decode cL_isRacked 142 = .ok (.iaload, 1) := by decide +kernel
theorem dL_isRacked_143 : decode cL_isRacked 143 = .ok (.if_icmp .ge 42, 3) := by decide +kernel
theorem dL_isRacked_146 : decode cL_isRacked 146 = .ok (.iload 12, 2) := by decide +kernel
theorem dL_isRacked_148 : decode cL_isRacked 148 = .ok (.aload_n 1, 1) := by decide +kernel
theorem dL_isRacked_149 : decode cL_isRacked 149 = .ok (.iload 13, 2) := by decide +kernel
theorem dL_isRacked_151 : decode cL_isRacked 151 = .ok (.iaload, 1) := by decide +kernel
theorem dL_isRacked_152 : decode cL_isRacked 152 = .ok (.bipush 15, 2) := by decide +kernel
theorem dL_isRacked_154 : decode cL_isRacked 154 = .ok (.iand, 1) := by decide +kernel
theorem dL_isRacked_155 : decode cL_isRacked 155 = .ok (.iload 11, 2) := by decide +kernel
theorem dL_isRacked_157 : decode cL_isRacked 157 = .ok (.if_icmp .ne 18, 3) := by decide +kernel
theorem dL_isRacked_160 : decode cL_isRacked 160 = .ok (.aload_n 2, 1) := by decide +kernel
theorem dL_isRacked_161 : decode cL_isRacked 161 = .ok (.iload 13, 2) := by decide +kernel
theorem dL_isRacked_163 : decode cL_isRacked 163 = .ok (.daload, 1) := by decide +kernel
theorem dL_isRacked_164 : decode cL_isRacked 164 = .ok (.ldc2_w 60, 3) := by decide +kernel
theorem dL_isRacked_167 : decode cL_isRacked 167 = .ok (.dcmp .l, 1) := by decide +kernel
theorem dL_isRacked_168 : decode cL_isRacked 168 = .ok (.ifCond .lt 7, 3) := by decide +kernel
theorem dL_isRacked_171 : decode cL_isRacked 171 = .ok (.iconst 1, 1) := by decide +kernel
theorem dL_isRacked_172 : decode cL_isRacked 172 = .ok (.goto 4, 3) := by decide +kernel
theorem dL_isRacked_175 : decode cL_isRacked 175 = .ok (.iconst 0, 1) := by decide +kernel
theorem dL_isRacked_176 : decode cL_isRacked 176 = .ok (.iadd, 1) := by decide +kernel
theorem dL_isRacked_177 : decode cL_isRacked 177 = .ok (.istore 12, 2) := by decide +kernel
theorem dL_isRacked_179 : decode cL_isRacked 179 = .ok (.iinc 13 1, 3) := by decide +kernel
theorem dL_isRacked_182 : decode cL_isRacked 182 = .ok (.goto (-45), 3) := by decide +kernel
theorem dL_isRacked_185 : decode cL_isRacked 185 = .ok (.aload_n 0, 1) := by decide +kernel
theorem dL_isRacked_186 : decode cL_isRacked 186 = .ok (.iload 11, 2) := by decide +kernel
theorem dL_isRacked_188 : decode cL_isRacked 188 = .ok (.invokestatic 91, 3) := by decide +kernel
theorem dL_isRacked_191 : decode cL_isRacked 191 = .ok (.iload 12, 2) := by decide +kernel
theorem dL_isRacked_193 : decode cL_isRacked 193 = .ok (.if_icmp .eq 5, 3) := by decide +kernel
theorem dL_isRacked_196 : decode cL_isRacked 196 = .ok (.iconst 0, 1) := by decide +kernel
theorem dL_isRacked_197 : decode cL_isRacked 197 = .ok (.ireturn, 1) := by decide +kernel
theorem dL_isRacked_198 : decode cL_isRacked 198 = .ok (.iinc 11 1, 3) := by decide +kernel
theorem dL_isRacked_201 : decode cL_isRacked 201 = .ok (.goto (-76), 3) := by decide +kernel
theorem dL_isRacked_204 : decode cL_isRacked 204 = .ok (.iconst 0, 1) := by decide +kernel
theorem dL_isRacked_205 : decode cL_isRacked 205 = .ok (.istore 11, 2) := by decide +kernel
theorem dL_isRacked_207 : decode cL_isRacked 207 = .ok (.iconst 0, 1) := by decide +kernel
theorem dL_isRacked_208 : decode cL_isRacked 208 = .ok (.istore 12, 2) := by decide +kernel
theorem dL_isRacked_210 : decode cL_isRacked 210 = .ok (.iload 12, 2) := by decide +kernel
theorem dL_isRacked_212 : decode cL_isRacked 212 = .ok (.aload 6, 2) := by decide +kernel
theorem dL_isRacked_214 : decode cL_isRacked 214 = .ok (.iconst 1, 1) := by decide +kernel
theorem dL_isRacked_215 : decode cL_isRacked 215 = .ok (.iaload, 1) := by decide +kernel
theorem dL_isRacked_216 : decode cL_isRacked 216 = .ok (.if_icmp .ge 79, 3) := by decide +kernel
theorem dL_isRacked_219 : decode cL_isRacked 219 = .ok (.aload_n 0, 1) := by decide +kernel
theorem dL_isRacked_220 : decode cL_isRacked 220 = .ok (.iload 12, 2) := by decide +kernel
theorem dL_isRacked_222 : decode cL_isRacked 222 = .ok (.invokevirtual 93, 3) := by decide +kernel
theorem dL_isRacked_225 : decode cL_isRacked 225 = .ok (.aload 5, 2) := by decide +kernel
theorem dL_isRacked_227 : decode cL_isRacked 227 = .ok (.iload 12, 2) := by decide +kernel
theorem dL_isRacked_229 : decode cL_isRacked 229 = .ok (.iaload, 1) := by decide +kernel
theorem dL_isRacked_230 : decode cL_isRacked 230 = .ok (.ifCond .ne 7, 3) := by decide +kernel
theorem dL_isRacked_233 : decode cL_isRacked 233 = .ok (.iconst (-1), 1) := by decide +kernel
theorem dL_isRacked_234 : decode cL_isRacked 234 = .ok (.goto 13, 3) := by decide +kernel
theorem dL_isRacked_237 : decode cL_isRacked 237 = .ok (.aload_n 2, 1) := by decide +kernel
theorem dL_isRacked_238 : decode cL_isRacked 238 = .ok (.aload 5, 2) := by decide +kernel
theorem dL_isRacked_240 : decode cL_isRacked 240 = .ok (.iload 12, 2) := by decide +kernel
theorem dL_isRacked_242 : decode cL_isRacked 242 = .ok (.iaload, 1) := by decide +kernel
theorem dL_isRacked_243 : decode cL_isRacked 243 = .ok (.iconst 1, 1) := by decide +kernel
theorem dL_isRacked_244 : decode cL_isRacked 244 = .ok (.isub, 1) := by decide +kernel
theorem dL_isRacked_245 : decode cL_isRacked 245 = .ok (.daload, 1) := by decide +kernel
theorem dL_isRacked_246 : decode cL_isRacked 246 = .ok (.d2i, 1) := by decide +kernel
theorem dL_isRacked_247 : decode cL_isRacked 247 = .ok (.if_icmp .eq 5, 3) := by decide +kernel
theorem dL_isRacked_250 : decode cL_isRacked 250 = .ok (.iconst 0, 1) := by decide +kernel
theorem dL_isRacked_251 : decode cL_isRacked 251 = .ok (.ireturn, 1) := by decide +kernel
theorem dL_isRacked_252 : decode cL_isRacked 252 = .ok (.iload 11, 2) := by decide +kernel
theorem dL_isRacked_254 : decode cL_isRacked 254 = .ok (.aload 5, 2) := by decide +kernel
theorem dL_isRacked_256 : decode cL_isRacked 256 = .ok (.iload 12, 2) := by decide +kernel
theorem dL_isRacked_258 : decode cL_isRacked 258 = .ok (.iaload, 1) := by decide +kernel
theorem dL_isRacked_259 : decode cL_isRacked 259 = .ok (.ifCond .le 26, 3) := by decide +kernel
theorem dL_isRacked_262 : decode cL_isRacked 262 = .ok (.aload_n 1, 1) := by decide +kernel
theorem dL_isRacked_263 : decode cL_isRacked 263 = .ok (.aload 5, 2) := by decide +kernel
theorem dL_isRacked_265 : decode cL_isRacked 265 = .ok (.iload 12, 2) := by decide +kernel
theorem dL_isRacked_267 : decode cL_isRacked 267 = .ok (.iaload, 1) := by decide +kernel
theorem dL_isRacked_268 : decode cL_isRacked 268 = .ok (.iconst 1, 1) := by decide +kernel
theorem dL_isRacked_269 : decode cL_isRacked 269 = .ok (.isub, 1) := by decide +kernel
theorem dL_isRacked_270 : decode cL_isRacked 270 = .ok (.iaload, 1) := by decide +kernel
theorem dL_isRacked_271 : decode cL_isRacked 271 = .ok (.iconst 3, 1) := by decide +kernel
theorem dL_isRacked_272 : decode cL_isRacked 272 = .ok (.iand, 1) := by decide +kernel
theorem dL_isRacked_273 : decode cL_isRacked 273 = .ok (.aload 4, 2) := by decide +kernel
theorem dL_isRacked_275 : decode cL_isRacked 275 = .ok (.iload 12, 2) := by decide +kernel
theorem dL_isRacked_277 : decode cL_isRacked 277 = .ok (.iaload, 1) := by decide +kernel
theorem dL_isRacked_278 : decode cL_isRacked 278 = .ok (.if_icmp .le 7, 3) := by decide +kernel
theorem dL_isRacked_281 : decode cL_isRacked 281 = .ok (.iconst 1, 1) := by decide +kernel
theorem dL_isRacked_282 : decode cL_isRacked 282 = .ok (.goto 4, 3) := by decide +kernel
theorem dL_isRacked_285 : decode cL_isRacked 285 = .ok (.iconst 0, 1) := by decide +kernel
theorem dL_isRacked_286 : decode cL_isRacked 286 = .ok (.iadd, 1) := by decide +kernel
theorem dL_isRacked_287 : decode cL_isRacked 287 = .ok (.istore 11, 2) := by decide +kernel
theorem dL_isRacked_289 : decode cL_isRacked 289 = .ok (.iinc 12 1, 3) := by decide +kernel
theorem dL_isRacked_292 : decode cL_isRacked 292 = .ok (.goto (-82), 3) := by decide +kernel
theorem dL_isRacked_295 : decode cL_isRacked 295 = .ok (.aload_n 0, 1) := by decide +kernel
theorem dL_isRacked_296 : decode cL_isRacked 296 = .ok (.invokevirtual 96, 3) := by decide +kernel
theorem dL_isRacked_299 : decode cL_isRacked 299 = .ok (.iload 11, 2) := by decide +kernel
theorem dL_isRacked_301 : decode cL_isRacked 301 = .ok (.if_icmp .ne 78, 3) := by decide +kernel
theorem dL_isRacked_304 : decode cL_isRacked 304 = .ok (.aload_n 0, 1) := by decide +kernel
theorem dL_isRacked_305 : decode cL_isRacked 305 = .ok (.invokevirtual 99, 3) := by decide +kernel
theorem dL_isRacked_308 : decode cL_isRacked 308 = .ok (.dload 9, 2) := by decide +kernel
theorem dL_isRacked_310 : decode cL_isRacked 310 = .ok (.dconst 0, 1) := by decide +kernel
theorem dL_isRacked_311 : decode cL_isRacked 311 = .ok (.dcmp .l, 1) := by decide +kernel
theorem dL_isRacked_312 : decode cL_isRacked 312 = .ok (.ifCond .ne 7, 3) := by decide +kernel
theorem dL_isRacked_315 : decode cL_isRacked 315 = .ok (.iconst 0, 1) := by decide +kernel
theorem dL_isRacked_316 : decode cL_isRacked 316 = .ok (.goto 13, 3) := by decide +kernel
theorem dL_isRacked_319 : decode cL_isRacked 319 = .ok (.dload 7, 2) := by decide +kernel
theorem dL_isRacked_321 : decode cL_isRacked 321 = .ok (.dload 9, 2) := by decide +kernel
theorem dL_isRacked_323 : decode cL_isRacked 323 = .ok (.ddiv, 1) := by decide +kernel
theorem dL_isRacked_324 : decode cL_isRacked 324 = .ok (.ldc2_w 102, 3) := by decide +kernel
theorem dL_isRacked_327 : decode cL_isRacked 327 = .ok (.dmul, 1) := by decide +kernel
theorem dL_isRacked_328 : decode cL_isRacked 328 = .ok (.d2i, 1) := by decide +kernel
theorem dL_isRacked_329 : decode cL_isRacked 329 = .ok (.if_icmp .ne 50, 3) := by decide +kernel
theorem dL_isRacked_332 : decode cL_isRacked 332 = .ok (.aload_n 0, 1) := by decide +kernel
theorem dL_isRacked_333 : decode cL_isRacked 333 = .ok (.aload 6, 2) := by decide +kernel
theorem dL_isRacked_335 : decode cL_isRacked 335 = .ok (.iconst 0, 1) := by decide +kernel
theorem dL_isRacked_336 : decode cL_isRacked 336 = .ok (.iaload, 1) := by decide +kernel
theorem dL_isRacked_337 : decode cL_isRacked 337 = .ok (.invokestatic 104, 3) := by decide +kernel
theorem dL_isRacked_340 : decode cL_isRacked 340 = .ok (.bipush (-61), 2) := by decide +kernel
theorem dL_isRacked_342 : decode cL_isRacked 342 = .ok (.if_icmp .ne 37, 3) := by decide +kernel
theorem dL_isRacked_345 : decode cL_isRacked 345 = .ok (.aload_n 0, 1) := by decide +kernel
theorem dL_isRacked_346 : decode cL_isRacked 346 = .ok (.iconst (-1), 1) := by decide +kernel
theorem dL_isRacked_347 : decode cL_isRacked 347 = .ok (.invokestatic 104, 3) := by decide +kernel
theorem dL_isRacked_350 : decode cL_isRacked 350 = .ok (.bipush (-61), 2) := by decide +kernel
theorem dL_isRacked_352 : decode cL_isRacked 352 = .ok (.if_icmp .ne 27, 3) := by decide +kernel
theorem dL_isRacked_355 : decode cL_isRacked 355 = .ok (.aload_n 0, 1) := by decide +kernel
theorem dL_isRacked_356 : decode cL_isRacked 356 = .ok (.iconst 3, 1) := by decide +kernel
theorem dL_isRacked_357 : decode cL_isRacked 357 = .ok (.invokestatic 91, 3) := by decide +kernel
theorem dL_isRacked_360 : decode cL_isRacked 360 = .ok (.bipush (-62), 2) := by decide +kernel
theorem dL_isRacked_362 : decode cL_isRacked 362 = .ok (.if_icmp .ne 17, 3) := by decide +kernel
theorem dL_isRacked_365 : decode cL_isRacked 365 = .ok (.aload_n 0, 1) := by decide +kernel
theorem dL_isRacked_366 : decode cL_isRacked 366 = .ok (.iconst (-1), 1) := by decide +kernel
theorem dL_isRacked_367 : decode cL_isRacked 367 = .ok (.invokestatic 91, 3) := by decide +kernel
theorem dL_isRacked_370 : decode cL_isRacked 370 = .ok (.bipush (-62), 2) := by decide +kernel
theorem dL_isRacked_372 : decode cL_isRacked 372 = .ok (.if_icmp .ne 7, 3) := by decide +kernel
theorem dL_isRacked_375 : decode cL_isRacked 375 = .ok (.iconst 1, 1) := by decide +kernel
theorem dL_isRacked_376 : decode cL_isRacked 376 = .ok (.goto 4, 3) := by decide +kernel
theorem dL_isRacked_379 : decode cL_isRacked 379 = .ok (.iconst 0, 1) := by decide +kernel
theorem dL_isRacked_380 : decode cL_isRacked 380 = .ok (.ireturn, 1) := by decide +kernel
set_option maxRecDepth 20000 in
theorem ggL_keeps_L_low : GoodIn wsL_keeps wsL_low := goodIn_r _ [5] (by decide +kernel) (by decide +kernel)
set_option maxRecDepth 20000 in
theorem gL_keeps_L_low : GoodIn wsL_keeps (va_wsS RL 106 yL_low wsL_low) := goodIn_app (goodIn_of _ (by decide +kernel)) ggL_keeps_L_low
set_option maxRecDepth 20000 in
theorem ggL_keeps_L_addLamp : GoodIn wsL_keeps wsL_addLamp := goodIn_ca (goodIn_ca (goodIn_r _ [8, 9, 10, 11, 12, 13, 14, 15, 16, 17, 18, 19, 20, 21, 22, 23, 24, 25, 26, 27, 28, 29, 30, 31, 32, 33, 34, 35, 36, 37, 38, 39, 40, 41, 42, 43, 222, 223, 224, 225, 226, 227, 228, 229, 230, 231, 232] (by decide +kernel) (by decide +kernel)) (goodIn_sub (fun _ h => List.mem_cons_of_mem _ (List.mem_append_left _ (List.mem_append_left _ (List.mem_append_right _ h)))) (by decide +kernel))) (goodIn_sub (fun _ h => List.mem_cons_of_mem _ (List.mem_append_left _ (List.mem_append_right _ h))) (by decide +kernel))
set_option maxRecDepth 20000 in
theorem gL_keeps_L_addLamp : GoodIn wsL_keeps (va_wsS RL 110 yL_addLamp wsL_addLamp) := goodIn_app (goodIn_of _ (by decide +kernel)) ggL_keeps_L_addLamp
set_option maxRecDepth 20000 in
theorem ggL_keeps_L_fresh : GoodIn wsL_keeps wsL_fresh := goodIn_r _ [46, 47, 48] (by decide +kernel) (by decide +kernel)
set_option maxRecDepth 20000 in
theorem gL_keeps_L_fresh : GoodIn wsL_keeps (va_wsS RL 54 yL_fresh wsL_fresh) := goodIn_app (goodIn_of _ (by decide +kernel)) ggL_keeps_L_fresh
set_option maxRecDepth 20000 in
theorem ggL_keeps_L_addMiner : GoodIn wsL_keeps wsL_addMiner := goodIn_ca (goodIn_ca (goodIn_r _ [51, 9, 10, 52, 53, 54, 14, 55, 16, 17, 56, 19, 20, 21, 22, 23, 57, 58, 59, 60, 61, 62, 63, 64, 65, 66, 67, 68, 222, 223, 224, 225, 233, 234, 235, 236, 237, 238] (by decide +kernel) (by decide +kernel)) (goodIn_sub (fun _ h => List.mem_cons_of_mem _ (List.mem_append_left _ (List.mem_append_left _ (List.mem_append_right _ h)))) (by decide +kernel))) (goodIn_sub (fun _ h => List.mem_cons_of_mem _ (List.mem_append_left _ (List.mem_append_right _ h))) (by decide +kernel))
set_option maxRecDepth 20000 in
theorem gL_keeps_L_addMiner : GoodIn wsL_keeps (va_wsS RL 112 yL_addMiner wsL_addMiner) := goodIn_app (goodIn_of _ (by decide +kernel)) ggL_keeps_L_addMiner
set_option maxRecDepth 20000 in
theorem ggL_keeps_L_test : GoodIn wsL_keeps wsL_test := goodIn_ca (goodIn_ca (goodIn_r _ [151, 72, 10, 152, 153, 154, 14, 155, 16, 17, 18, 156, 157, 158, 159, 82, 83, 24, 25, 26, 27, 28, 29, 160, 161, 162, 163, 35, 164, 165, 166, 167, 133, 36, 168, 34, 38, 39, 40, 41, 42, 43, 105, 106, 107, 108, 222, 223, 224, 225, 226, 227, 228, 229, 230, 231, 232] (by decide +kernel) (by decide +kernel)) (goodIn_sub (fun _ h => List.mem_cons_of_mem _ (List.mem_append_left _ (List.mem_append_left _ (List.mem_append_right _ h)))) (by decide +kernel))) (goodIn_sub (fun _ h => List.mem_cons_of_mem _ (List.mem_append_right _ h)) (by decide +kernel))
set_option maxRecDepth 20000 in
theorem gL_keeps_L_test : GoodIn wsL_keeps (va_wsS RL 124 yL_test wsL_test) := goodIn_app (goodIn_of _ (by decide +kernel)) ggL_keeps_L_test
set_option maxRecDepth 20000 in
theorem ggL_keeps_L_mend : GoodIn wsL_keeps wsL_mend := goodIn_ca (goodIn_ca (goodIn_r _ [171, 72, 10, 172, 173, 174, 14, 175, 16, 17, 18, 156, 157, 158, 159, 82, 83, 24, 25, 26, 27, 28, 29, 160, 161, 162, 163, 35, 176, 177, 178, 179, 133, 164, 165, 166, 167, 36, 168, 34, 38, 39, 40, 41, 42, 43, 105, 106, 107, 108, 222, 223, 224, 225, 226, 227, 228, 229, 230, 231, 232] (by decide +kernel) (by decide +kernel)) (goodIn_sub (fun _ h => List.mem_cons_of_mem _ (List.mem_append_left _ (List.mem_append_left _ (List.mem_append_right _ h)))) (by decide +kernel))) (goodIn_sub (fun _ h => List.mem_cons_of_mem _ (List.mem_append_right _ h)) (by decide +kernel))
set_option maxRecDepth 20000 in
theorem gL_keeps_L_mend : GoodIn wsL_keeps (va_wsS RL 126 yL_mend wsL_mend) := goodIn_app (goodIn_of _ (by decide +kernel)) ggL_keeps_L_mend
theorem dL_keeps_0 : decode cL_keeps 0 = .ok (.iload_n 2, 1) := by decide +kernel
theorem dL_keeps_1 : decode cL_keeps 1 = .ok (.aload 12, 2) := by decide +kernel
theorem dL_keeps_3 : decode cL_keeps 3 = .ok (.iconst 0, 1) := by decide +kernel
theorem dL_keeps_4 : decode cL_keeps 4 = .ok (.iaload, 1) := by decide +kernel
theorem dL_keeps_5 : decode cL_keeps 5 = .ok (.iconst 1, 1) := by decide +kernel
theorem dL_keeps_6 : decode cL_keeps 6 = .ok (.iadd, 1) := by decide +kernel
theorem dL_keeps_7 : decode cL_keeps 7 = .ok (.invokestatic 106, 3) := by decide +kernel
theorem dL_keeps_10 : decode cL_keeps 10 = .ok (.istore 13, 2) := by decide +kernel
theorem dL_keeps_12 : decode cL_keeps 12 = .ok (.iload_n 2, 1) := by decide +kernel
theorem dL_keeps_13 : decode cL_keeps 13 = .ok (.aload 12, 2) := by decide +kernel
theorem dL_keeps_15 : decode cL_keeps 15 = .ok (.iconst 1, 1) := by decide +kernel
theorem dL_keeps_16 : decode cL_keeps 16 = .ok (.iaload, 1) := by decide +kernel
theorem dL_keeps_17 : decode cL_keeps 17 = .ok (.iconst 1, 1) := by decide +kernel
theorem dL_keeps_18 : decode cL_keeps 18 = .ok (.iadd, 1) := by decide +kernel
theorem dL_keeps_19 : decode cL_keeps 19 = .ok (.invokestatic 106, 3) := by decide +kernel
theorem dL_keeps_22 : decode cL_keeps 22 = .ok (.istore 14, 2) := by decide +kernel
theorem dL_keeps_24 : decode cL_keeps 24 = .ok (.iload_n 1, 1) := by decide +kernel
theorem dL_keeps_25 : decode cL_keeps 25 = .ok (.bipush 20, 2) := by decide +kernel
theorem dL_keeps_27 : decode cL_keeps 27 = .ok (.invokestatic 106, 3) := by decide +kernel
theorem dL_keeps_30 : decode cL_keeps 30 = .ok (.tableswitch 960 0 15 #[78, 78, 192, 192, 283, 283, 283, 283, 283, 441, 441, 441, 441, 651, 784, 784], 78) := by decide +kernel
theorem dL_keeps_108 : decode cL_keeps 108 = .ok (.iload_n 2, 1) := by decide +kernel
theorem dL_keeps_109 : decode cL_keeps 109 = .ok (.iconst 3, 1) := by decide +kernel
theorem dL_keeps_110 : decode cL_keeps 110 = .ok (.invokestatic 106, 3) := by decide +kernel
theorem dL_keeps_113 : decode cL_keeps 113 = .ok (.istore 15, 2) := by decide +kernel
theorem dL_keeps_115 : decode cL_keeps 115 = .ok (.aload 12, 2) := by decide +kernel
theorem dL_keeps_117 : decode cL_keeps 117 = .ok (.iconst 0, 1) := by decide +kernel
theorem dL_keeps_118 : decode cL_keeps 118 = .ok (.iaload, 1) := by decide +kernel
theorem dL_keeps_119 : decode cL_keeps 119 = .ok (.bipush 40, 2) := by decide +kernel
theorem dL_keeps_121 : decode cL_keeps 121 = .ok (.if_icmp .ne 30, 3) := by decide +kernel
theorem dL_keeps_124 : decode cL_keeps 124 = .ok (.aload_n 0, 1) := by decide +kernel
theorem dL_keeps_125 : decode cL_keeps 125 = .ok (.iload 15, 2) := by decide +kernel
theorem dL_keeps_127 : decode cL_keeps 127 = .ok (.invokestatic 110, 3) := by decide +kernel
theorem dL_keeps_130 : decode cL_keeps 130 = .ok (.bipush (-63), 2) := by decide +kernel
theorem dL_keeps_132 : decode cL_keeps 132 = .ok (.if_icmp .ne 17, 3) := by decide +kernel
theorem dL_keeps_135 : decode cL_keeps 135 = .ok (.aload_n 0, 1) := by decide +kernel
theorem dL_keeps_136 : decode cL_keeps 136 = .ok (.iconst 3, 1) := by decide +kernel
theorem dL_keeps_137 : decode cL_keeps 137 = .ok (.invokestatic 110, 3) := by decide +kernel
theorem dL_keeps_140 : decode cL_keeps 140 = .ok (.bipush (-62), 2) := by decide +kernel
theorem dL_keeps_142 : decode cL_keeps 142 = .ok (.if_icmp .ne 7, 3) := by decide +kernel
theorem dL_keeps_145 : decode cL_keeps 145 = .ok (.iconst 1, 1) := by decide +kernel
theorem dL_keeps_146 : decode cL_keeps 146 = .ok (.goto 4, 3) := by decide +kernel
theorem dL_keeps_149 : decode cL_keeps 149 = .ok (.iconst 0, 1) := by decide +kernel
theorem dL_keeps_150 : decode cL_keeps 150 = .ok (.ireturn, 1) := by decide +kernel
theorem dL_keeps_151 : decode cL_keeps 151 = .ok (.aload_n 3, 1) := by decide +kernel
theorem dL_keeps_152 : decode cL_keeps 152 = .ok (.aload 12, 2) := by decide +kernel
theorem dL_keeps_154 : decode cL_keeps 154 = .ok (.iconst 0, 1) := by decide +kernel
theorem dL_keeps_155 : decode cL_keeps 155 = .ok (.iaload, 1) := by decide +kernel
theorem dL_keeps_156 : decode cL_keeps 156 = .ok (.iload 15, 2) := by decide +kernel
theorem dL_keeps_158 : decode cL_keeps 158 = .ok (.iastore, 1) := by decide +kernel
theorem dL_keeps_159 : decode cL_keeps 159 = .ok (.aload 4, 2) := by decide +kernel
theorem dL_keeps_161 : decode cL_keeps 161 = .ok (.aload 12, 2) := by decide +kernel
theorem dL_keeps_163 : decode cL_keeps 163 = .ok (.iconst 0, 1) := by decide +kernel
theorem dL_keeps_164 : decode cL_keeps 164 = .ok (.iaload, 1) := by decide +kernel
theorem dL_keeps_165 : decode cL_keeps 165 = .ok (.iload 15, 2) := by decide +kernel
theorem dL_keeps_167 : decode cL_keeps 167 = .ok (.invokestatic 54, 3) := by decide +kernel
theorem dL_keeps_170 : decode cL_keeps 170 = .ok (.dastore, 1) := by decide +kernel
theorem dL_keeps_171 : decode cL_keeps 171 = .ok (.aload 5, 2) := by decide +kernel
theorem dL_keeps_173 : decode cL_keeps 173 = .ok (.aload 12, 2) := by decide +kernel
theorem dL_keeps_175 : decode cL_keeps 175 = .ok (.iconst 0, 1) := by decide +kernel
theorem dL_keeps_176 : decode cL_keeps 176 = .ok (.iaload, 1) := by decide +kernel
theorem dL_keeps_177 : decode cL_keeps 177 = .ok (.iload 15, 2) := by decide +kernel
theorem dL_keeps_179 : decode cL_keeps 179 = .ok (.invokestatic 54, 3) := by decide +kernel
theorem dL_keeps_182 : decode cL_keeps 182 = .ok (.dastore, 1) := by decide +kernel
theorem dL_keeps_183 : decode cL_keeps 183 = .ok (.aload 12, 2) := by decide +kernel
theorem dL_keeps_185 : decode cL_keeps 185 = .ok (.iconst 0, 1) := by decide +kernel
theorem dL_keeps_186 : decode cL_keeps 186 = .ok (.dup2, 1) := by decide +kernel
theorem dL_keeps_187 : decode cL_keeps 187 = .ok (.iaload, 1) := by decide +kernel
theorem dL_keeps_188 : decode cL_keeps 188 = .ok (.iconst 1, 1) := by decide +kernel
theorem dL_keeps_189 : decode cL_keeps 189 = .ok (.iadd, 1) := by decide +kernel
theorem dL_keeps_190 : decode cL_keeps 190 = .ok (.iastore, 1) := by decide +kernel
theorem dL_keeps_191 : decode cL_keeps 191 = .ok (.aload_n 0, 1) := by decide +kernel
theorem dL_keeps_192 : decode cL_keeps 192 = .ok (.iload 15, 2) := by decide +kernel
theorem dL_keeps_194 : decode cL_keeps 194 = .ok (.invokestatic 110, 3) := by decide +kernel
theorem dL_keeps_197 : decode cL_keeps 197 = .ok (.aload 12, 2) := by decide +kernel
theorem dL_keeps_199 : decode cL_keeps 199 = .ok (.iconst 0, 1) := by decide +kernel
theorem dL_keeps_200 : decode cL_keeps 200 = .ok (.iaload, 1) := by decide +kernel
theorem dL_keeps_201 : decode cL_keeps 201 = .ok (.iconst 1, 1) := by decide +kernel
theorem dL_keeps_202 : decode cL_keeps 202 = .ok (.isub, 1) := by decide +kernel
theorem dL_keeps_203 : decode cL_keeps 203 = .ok (.if_icmp .ne 17, 3) := by decide +kernel
theorem dL_keeps_206 : decode cL_keeps 206 = .ok (.aload_n 0, 1) := by decide +kernel
theorem dL_keeps_207 : decode cL_keeps 207 = .ok (.iconst (-1), 1) := by decide +kernel
theorem dL_keeps_208 : decode cL_keeps 208 = .ok (.invokestatic 110, 3) := by decide +kernel
theorem dL_keeps_211 : decode cL_keeps 211 = .ok (.bipush (-62), 2) := by decide +kernel
theorem dL_keeps_213 : decode cL_keeps 213 = .ok (.if_icmp .ne 7, 3) := by decide +kernel
theorem dL_keeps_216 : decode cL_keeps 216 = .ok (.iconst 1, 1) := by decide +kernel
theorem dL_keeps_217 : decode cL_keeps 217 = .ok (.goto 4, 3) := by decide +kernel
theorem dL_keeps_220 : decode cL_keeps 220 = .ok (.iconst 0, 1) := by decide +kernel
theorem dL_keeps_221 : decode cL_keeps 221 = .ok (.ireturn, 1) := by decide +kernel
theorem dL_keeps_222 : decode cL_keeps 222 = .ok (.aload 12, 2) := by decide +kernel
theorem dL_keeps_224 : decode cL_keeps 224 = .ok (.iconst 1, 1) := by decide +kernel
theorem dL_keeps_225 : decode cL_keeps 225 = .ok (.iaload, 1) := by decide +kernel
theorem dL_keeps_226 : decode cL_keeps 226 = .ok (.bipush 30, 2) := by decide +kernel
theorem dL_keeps_228 : decode cL_keeps 228 = .ok (.if_icmp .ne 19, 3) := by decide +kernel
theorem dL_keeps_231 : decode cL_keeps 231 = .ok (.aload_n 0, 1) := by decide +kernel
theorem dL_keeps_232 : decode cL_keeps 232 = .ok (.iconst 0, 1) := by decide +kernel
theorem dL_keeps_233 : decode cL_keeps 233 = .ok (.invokestatic 112, 3) := by decide +kernel
theorem dL_keeps_236 : decode cL_keeps 236 = .ok (.bipush (-63), 2) := by decide +kernel
theorem dL_keeps_238 : decode cL_keeps 238 = .ok (.if_icmp .ne 7, 3) := by decide +kernel
theorem dL_keeps_241 : decode cL_keeps 241 = .ok (.iconst 1, 1) := by decide +kernel
theorem dL_keeps_242 : decode cL_keeps 242 = .ok (.goto 4, 3) := by decide +kernel
theorem dL_keeps_245 : decode cL_keeps 245 = .ok (.iconst 0, 1) := by decide +kernel
theorem dL_keeps_246 : decode cL_keeps 246 = .ok (.ireturn, 1) := by decide +kernel
theorem dL_keeps_247 : decode cL_keeps 247 = .ok (.aload 6, 2) := by decide +kernel
theorem dL_keeps_249 : decode cL_keeps 249 = .ok (.aload 12, 2) := by decide +kernel
theorem dL_keeps_251 : decode cL_keeps 251 = .ok (.iconst 1, 1) := by decide +kernel
theorem dL_keeps_252 : decode cL_keeps 252 = .ok (.iaload, 1) := by decide +kernel
theorem dL_keeps_253 : decode cL_keeps 253 = .ok (.iload_n 2, 1) := by decide +kernel
theorem dL_keeps_254 : decode cL_keeps 254 = .ok (.iconst 3, 1) := by decide +kernel
theorem dL_keeps_255 : decode cL_keeps 255 = .ok (.invokestatic 106, 3) := by decide +kernel
theorem dL_keeps_258 : decode cL_keeps 258 = .ok (.iastore, 1) := by decide +kernel
theorem dL_keeps_259 : decode cL_keeps 259 = .ok (.aload 7, 2) := by decide +kernel
theorem dL_keeps_261 : decode cL_keeps 261 = .ok (.aload 12, 2) := by decide +kernel
theorem dL_keeps_263 : decode cL_keeps 263 = .ok (.iconst 1, 1) := by decide +kernel
theorem dL_keeps_264 : decode cL_keeps 264 = .ok (.iaload, 1) := by decide +kernel
theorem dL_keeps_265 : decode cL_keeps 265 = .ok (.iconst 0, 1) := by decide +kernel
theorem dL_keeps_266 : decode cL_keeps 266 = .ok (.iastore, 1) := by decide +kernel
theorem dL_keeps_267 : decode cL_keeps 267 = .ok (.aload 12, 2) := by decide +kernel
theorem dL_keeps_269 : decode cL_keeps 269 = .ok (.iconst 1, 1) := by decide +kernel
theorem dL_keeps_270 : decode cL_keeps 270 = .ok (.dup2, 1) := by decide +kernel
theorem dL_keeps_271 : decode cL_keeps 271 = .ok (.iaload, 1) := by decide +kernel
theorem dL_keeps_272 : decode cL_keeps 272 = .ok (.iconst 1, 1) := by decide +kernel
theorem dL_keeps_273 : decode cL_keeps 273 = .ok (.iadd, 1) := by decide +kernel
theorem dL_keeps_274 : decode cL_keeps 274 = .ok (.iastore, 1) := by decide +kernel
theorem dL_keeps_275 : decode cL_keeps 275 = .ok (.aload_n 0, 1) := by decide +kernel
theorem dL_keeps_276 : decode cL_keeps 276 = .ok (.aload 6, 2) := by decide +kernel
theorem dL_keeps_278 : decode cL_keeps 278 = .ok (.aload 12, 2) := by decide +kernel
theorem dL_keeps_280 : decode cL_keeps 280 = .ok (.iconst 1, 1) := by decide +kernel
theorem dL_keeps_281 : decode cL_keeps 281 = .ok (.iaload, 1) := by decide +kernel
theorem dL_keeps_282 : decode cL_keeps 282 = .ok (.iconst 1, 1) := by decide +kernel
theorem dL_keeps_283 : decode cL_keeps 283 = .ok (.isub, 1) := by decide +kernel
theorem dL_keeps_284 : decode cL_keeps 284 = .ok (.iaload, 1) := by decide +kernel
theorem dL_keeps_285 : decode cL_keeps 285 = .ok (.invokestatic 112, 3) := by decide +kernel
theorem dL_keeps_288 : decode cL_keeps 288 = .ok (.aload 12, 2) := by decide +kernel
theorem dL_keeps_290 : decode cL_keeps 290 = .ok (.iconst 1, 1) := by decide +kernel
theorem dL_keeps_291 : decode cL_keeps 291 = .ok (.iaload, 1) := by decide +kernel
theorem dL_keeps_292 : decode cL_keeps 292 = .ok (.iconst 1, 1) := by decide +kernel
theorem dL_keeps_293 : decode cL_keeps 293 = .ok (.isub, 1) := by decide +kernel
theorem dL_keeps_294 : decode cL_keeps 294 = .ok (.if_icmp .ne 17, 3) := by decide +kernel
theorem dL_keeps_297 : decode cL_keeps 297 = .ok (.aload_n 0, 1) := by decide +kernel
theorem dL_keeps_298 : decode cL_keeps 298 = .ok (.iconst 3, 1) := by decide +kernel
theorem dL_keeps_299 : decode cL_keeps 299 = .ok (.invokestatic 112, 3) := by decide +kernel
theorem dL_keeps_302 : decode cL_keeps 302 = .ok (.bipush (-62), 2) := by decide +kernel
theorem dL_keeps_304 : decode cL_keeps 304 = .ok (.if_icmp .ne 7, 3) := by decide +kernel
theorem dL_keeps_307 : decode cL_keeps 307 = .ok (.iconst 1, 1) := by decide +kernel
theorem dL_keeps_308 : decode cL_keeps 308 = .ok (.goto 4, 3) := by decide +kernel
theorem dL_keeps_311 : decode cL_keeps 311 = .ok (.iconst 0, 1) := by decide +kernel
theorem dL_keeps_312 : decode cL_keeps 312 = .ok (.ireturn, 1) := by decide +kernel
theorem dL_keeps_681 : decode cL_keeps 681 = .ok (.iload 13, 2) := by decide +kernel
theorem dL_keeps_683 : decode cL_keeps 683 = .ok (.aload 12, 2) := by decide +kernel
theorem dL_keeps_685 : decode cL_keeps 685 = .ok (.iconst 0, 1) := by decide +kernel
theorem dL_keeps_686 : decode cL_keeps 686 = .ok (.iaload, 1) := by decide +kernel
theorem dL_keeps_687 : decode cL_keeps 687 = .ok (.if_icmp .ne 31, 3) := by decide +kernel
theorem dL_keeps_690 : decode cL_keeps 690 = .ok (.aload_n 0, 1) := by decide +kernel
theorem dL_keeps_691 : decode cL_keeps 691 = .ok (.iload 13, 2) := by decide +kernel
theorem dL_keeps_693 : decode cL_keeps 693 = .ok (.invokestatic 124, 3) := by decide +kernel
theorem dL_keeps_696 : decode cL_keeps 696 = .ok (.bipush (-61), 2) := by decide +kernel
theorem dL_keeps_698 : decode cL_keeps 698 = .ok (.if_icmp .ne 18, 3) := by decide +kernel
theorem dL_keeps_701 : decode cL_keeps 701 = .ok (.aload_n 0, 1) := by decide +kernel
theorem dL_keeps_702 : decode cL_keeps 702 = .ok (.iload 13, 2) := by decide +kernel
theorem dL_keeps_704 : decode cL_keeps 704 = .ok (.invokestatic 126, 3) := by decide +kernel
theorem dL_keeps_707 : decode cL_keeps 707 = .ok (.bipush (-61), 2) := by decide +kernel
theorem dL_keeps_709 : decode cL_keeps 709 = .ok (.if_icmp .ne 7, 3) := by decide +kernel
theorem dL_keeps_712 : decode cL_keeps 712 = .ok (.iconst 1, 1) := by decide +kernel
theorem dL_keeps_713 : decode cL_keeps 713 = .ok (.goto 4, 3) := by decide +kernel
theorem dL_keeps_716 : decode cL_keeps 716 = .ok (.iconst 0, 1) := by decide +kernel
theorem dL_keeps_717 : decode cL_keeps 717 = .ok (.ireturn, 1) := by decide +kernel
set_option maxRecDepth 20000 in
theorem ggL_law_X3_init : GoodIn wsL_law wsX3_init := goodIn_r _ [11, 12, 13, 14, 15, 16, 17, 18, 19, 20, 21, 22, 23, 24, 25, 26, 27, 28, 29, 30, 3, 31, 32, 33, 34, 35, 4, 36, 37, 38, 39, 40, 41, 42, 43, 44, 45, 46, 47, 48, 49, 50, 51, 374, 375, 376, 377, 378, 379, 380, 370, 371, 372, 373, 381, 382, 383, 384, 385, 386, 387] (by decide +kernel) (by decide +kernel)
set_option maxRecDepth 20000 in
theorem gL_law_X3_init : GoodIn wsL_law (wsX3_init) := ggL_law_X3_init
set_option maxRecDepth 20000 in
theorem ggL_law_L_cell : GoodIn wsL_law wsL_cell := goodIn_r _ [55, 56] (by decide +kernel) (by decide +kernel)
set_option maxRecDepth 20000 in
theorem gL_law_L_cell : GoodIn wsL_law (va_wsS RL 139 yL_cell wsL_cell) := goodIn_app (goodIn_of _ (by decide +kernel)) ggL_law_L_cell
set_option maxRecDepth 20000 in
theorem ggL_law_L_keeps : GoodIn wsL_law wsL_keeps := goodIn_ca (goodIn_ca (goodIn_ca (goodIn_kons (List.mem_of_getElem? (i := 59) rfl) (goodIn_r _ [8, 60, 61, 54, 62, 63, 64, 65, 66, 67, 68, 69, 70, 2, 71, 72, 73, 18, 74, 75, 76, 77, 78, 79, 80, 81, 17, 82, 38, 83, 84, 85, 86, 31, 32, 37, 36, 87, 88, 89, 90, 91, 92, 93, 94, 95, 96, 97, 98, 99, 100, 101, 102, 103, 104, 22, 105, 106, 107, 21, 108, 46, 109, 110, 111, 112, 42, 43, 113, 114, 115, 116, 117, 118, 119, 120, 27, 121, 122, 123, 124, 125, 126, 127, 128, 129, 130, 131, 132, 133, 134, 135, 136, 137, 138, 139, 140, 141, 142, 143, 144, 145, 146, 147, 148, 149, 150, 151, 152, 153, 154, 155, 44, 45, 47, 156, 157, 158, 159, 160, 161, 162, 26, 163, 164, 165, 166, 167, 168, 169, 170, 33, 35, 171, 172, 173, 174, 175, 176, 177, 178, 25, 179, 51, 180, 181, 182, 183, 184, 185, 186, 187, 188, 189, 190, 191, 192, 193, 194, 195, 196, 197, 198, 199, 200, 201, 202, 203, 204, 205, 206, 207, 208, 209, 210, 211, 212, 213, 214, 215, 216, 217, 218, 219, 220, 221, 222, 223, 224, 225, 226, 227, 228, 229, 230, 231, 232, 233, 234, 235, 236, 237, 238, 239, 240, 241, 242, 243, 244, 245, 246, 247, 248, 249, 250, 251, 252, 253, 254, 255, 256, 370, 371, 372, 373, 374, 375, 376, 377, 378, 379, 380, 381, 382, 383, 384, 385, 386, 387] (by decide +kernel) (by decide +kernel))) (goodIn_sub (fun _ h => List.mem_append_left _ (List.mem_append_left _ (List.mem_append_right _ h))) (by decide +kernel))) (goodIn_sub (fun _ h => List.mem_append_left _ (List.mem_append_right _ h)) (by decide +kernel))) (goodIn_sub (fun _ h => List.mem_append_right _ h) (by decide +kernel))
set_option maxRecDepth 20000 in
theorem gL_law_L_keeps : GoodIn wsL_law (va_wsS RL 143 yL_keeps wsL_keeps) := goodIn_app (goodIn_of _ (by decide +kernel)) ggL_law_L_keeps
set_option maxRecDepth 20000 in
theorem ggL_law_L_isRead : GoodIn wsL_law wsL_isRead := goodIn_ca (goodIn_kons (List.mem_of_getElem? (i := 259) rfl) (goodIn_r _ [260, 261, 262, 2, 263, 22, 121, 122, 123, 124, 125, 126, 105, 106, 107, 21, 108, 46, 127, 128, 129, 130, 43, 264, 265, 266, 267, 27, 163, 164, 165, 166, 44, 268, 269, 270, 271, 272, 273, 274, 275, 276, 277, 278, 279, 45, 280, 281, 282, 283, 26, 284, 285, 286, 25, 287, 51, 288, 289, 290, 291, 292, 293, 294, 295, 296, 297, 298, 299, 300, 301, 302, 303, 304, 305, 54, 306, 116, 370, 371, 372, 373, 381, 382, 383, 384, 385, 386, 387] (by decide +kernel) (by decide +kernel))) (goodIn_sub (fun _ h => List.mem_append_right _ h) (by decide +kernel))
set_option maxRecDepth 20000 in
theorem gL_law_L_isRead : GoodIn wsL_law (va_wsS RL 147 yL_isRead wsL_isRead) := goodIn_app (goodIn_of _ (by decide +kernel)) ggL_law_L_isRead
set_option maxRecDepth 20000 in
theorem ggL_law_L_isRacked : GoodIn wsL_law wsL_isRacked := goodIn_ca (goodIn_ca (goodIn_r _ [309, 183, 310, 311, 312, 313, 2, 314, 18, 191, 192, 193, 194, 125, 126, 79, 80, 81, 17, 82, 38, 195, 196, 197, 198, 32, 315, 316, 317, 318, 319, 320, 321, 322, 33, 323, 324, 325, 326, 253, 254, 255, 256, 36, 327, 328, 329, 330, 331, 332, 333, 334, 37, 335, 336, 54, 337, 66, 338, 339, 340, 341, 74, 75, 76, 77, 78, 342, 343, 344, 345, 143, 144, 145, 146, 31, 147, 346, 347, 348, 349, 22, 121, 122, 123, 124, 105, 106, 107, 21, 108, 46, 127, 128, 129, 130, 43, 350, 351, 352, 353, 354, 355, 356, 357, 131, 132, 133, 134, 42, 358, 359, 360, 361, 362, 363, 364, 365, 366, 367, 368, 369, 116, 370, 371, 372, 373, 374, 375, 376, 377, 378, 379, 380, 381, 382, 383, 384, 385, 386] (by decide +kernel) (by decide +kernel)) (goodIn_sub (fun _ h => List.mem_append_right _ h) (by decide +kernel))) (goodIn_sub (fun _ h => List.mem_append_left _ (List.mem_append_right _ h)) (by decide +kernel))
set_option maxRecDepth 20000 in
theorem gL_law_L_isRacked : GoodIn wsL_law (va_wsS RL 151 yL_isRacked wsL_isRacked) := goodIn_app (goodIn_of _ (by decide +kernel)) ggL_law_L_isRacked
set_option maxRecDepth 20000 in
theorem ggL_law_L_addLamp : GoodIn wsL_law wsL_addLamp := goodIn_ca (goodIn_ca (goodIn_r _ [65, 66, 67, 68, 69, 70, 2, 71, 72, 73, 18, 74, 75, 76, 77, 78, 79, 80, 81, 17, 82, 38, 83, 84, 85, 86, 31, 32, 37, 36, 87, 88, 89, 90, 91, 92, 370, 371, 372, 373, 374, 375, 376, 377, 378, 379, 380] (by decide +kernel) (by decide +kernel)) (goodIn_sub (fun _ h => List.mem_append_left _ (List.mem_append_left _ (List.mem_append_right _ h))) (by decide +kernel))) (goodIn_sub (fun _ h => List.mem_append_left _ (List.mem_append_right _ h)) (by decide +kernel))
set_option maxRecDepth 20000 in
theorem gL_law_L_addLamp : GoodIn wsL_law (va_wsS RL 110 yL_addLamp wsL_addLamp) := goodIn_app (goodIn_of _ (by decide +kernel)) ggL_law_L_addLamp
set_option maxRecDepth 20000 in
theorem ggL_law_L_addMiner : GoodIn wsL_law wsL_addMiner := goodIn_ca (goodIn_ca (goodIn_r _ [100, 66, 67, 101, 102, 103, 2, 104, 72, 73, 22, 74, 75, 76, 77, 78, 105, 106, 107, 21, 108, 46, 109, 110, 111, 112, 42, 43, 370, 371, 372, 373, 381, 382, 383, 384, 385, 386] (by decide +kernel) (by decide +kernel)) (goodIn_sub (fun _ h => List.mem_append_left _ (List.mem_append_left _ (List.mem_append_right _ h))) (by decide +kernel))) (goodIn_sub (fun _ h => List.mem_append_left _ (List.mem_append_right _ h)) (by decide +kernel))
set_option maxRecDepth 20000 in
theorem gL_law_L_addMiner : GoodIn wsL_law (va_wsS RL 112 yL_addMiner wsL_addMiner) := goodIn_app (goodIn_of _ (by decide +kernel)) ggL_law_L_addMiner
set_option maxRecDepth 20000 in
theorem ggL_law_X3_spares : GoodIn wsL_law wsX3_spares := goodIn_r _ [353, 22, 18, 105, 106, 107, 21, 108, 46, 127, 128, 129, 130, 43, 354, 355, 356, 17, 357, 31, 131, 132, 133, 134, 42, 370, 371, 372, 373, 381, 382, 383, 384, 385, 386, 374, 375, 376, 377, 378, 379, 380] (by decide +kernel) (by decide +kernel)
set_option maxRecDepth 20000 in
theorem gL_law_X3_spares : GoodIn wsL_law (wsV RL 96 RX3 yX3_spares wsX3_spares) := goodIn_app (goodIn_of _ (by decide +kernel)) ggL_law_X3_spares
set_option maxRecDepth 20000 in
theorem ggL_law_X3_chargeOf : GoodIn wsL_law wsX3_chargeOf := goodIn_ca (goodIn_r _ [326, 18, 191, 192, 193, 2, 194, 125, 126, 79, 80, 81, 17, 82, 38, 253, 254, 255, 256, 36, 370, 371, 372, 373, 374, 375, 376, 377, 378, 379, 380] (by decide +kernel) (by decide +kernel)) (goodIn_sub (fun _ h => List.mem_append_right _ h) (by decide +kernel))
set_option maxRecDepth 20000 in
theorem gL_law_X3_chargeOf : GoodIn wsL_law (wsV RL 85 RX3 yX3_chargeOf wsX3_chargeOf) := goodIn_app (goodIn_of _ (by decide +kernel)) ggL_law_X3_chargeOf
set_option maxRecDepth 20000 in
theorem ggL_law_X3_capacityOf : GoodIn wsL_law wsX3_capacityOf := goodIn_ca (goodIn_r _ [330, 18, 191, 192, 193, 2, 194, 125, 126, 79, 80, 81, 17, 82, 38, 331, 332, 333, 334, 37, 370, 371, 372, 373, 374, 375, 376, 377, 378, 379, 380] (by decide +kernel) (by decide +kernel)) (goodIn_sub (fun _ h => List.mem_append_right _ h) (by decide +kernel))
set_option maxRecDepth 20000 in
theorem gL_law_X3_capacityOf : GoodIn wsL_law (wsV RL 88 RX3 yX3_capacityOf wsX3_capacityOf) := goodIn_app (goodIn_of _ (by decide +kernel)) ggL_law_X3_capacityOf
set_option maxRecDepth 20000 in
theorem ggL_law_X3_turnsOf : GoodIn wsL_law wsX3_turnsOf := goodIn_ca (goodIn_r _ [318, 18, 191, 192, 193, 2, 194, 125, 126, 79, 80, 81, 17, 82, 38, 319, 320, 321, 322, 33, 370, 371, 372, 373, 374, 375, 376, 377, 378, 379, 380] (by decide +kernel) (by decide +kernel)) (goodIn_sub (fun _ h => List.mem_append_right _ h) (by decide +kernel))
set_option maxRecDepth 20000 in
theorem gL_law_X3_turnsOf : GoodIn wsL_law (wsV RL 82 RX3 yX3_turnsOf wsX3_turnsOf) := goodIn_app (goodIn_of _ (by decide +kernel)) ggL_law_X3_turnsOf
set_option maxRecDepth 20000 in
theorem ggL_law_L_test : GoodIn wsL_law wsL_test := goodIn_ca (goodIn_ca (goodIn_r _ [186, 116, 67, 187, 188, 189, 2, 190, 72, 73, 18, 191, 192, 193, 194, 125, 126, 79, 80, 81, 17, 82, 38, 195, 196, 197, 198, 32, 199, 200, 201, 202, 35, 37, 203, 31, 87, 88, 89, 90, 91, 92, 148, 149, 150, 151, 370, 371, 372, 373, 374, 375, 376, 377, 378, 379, 380] (by decide +kernel) (by decide +kernel)) (goodIn_sub (fun _ h => List.mem_append_left _ (List.mem_append_left _ (List.mem_append_right _ h))) (by decide +kernel))) (goodIn_sub (fun _ h => List.mem_append_right _ h) (by decide +kernel))
set_option maxRecDepth 20000 in
theorem gL_law_L_test : GoodIn wsL_law (va_wsS RL 124 yL_test wsL_test) := goodIn_app (goodIn_of _ (by decide +kernel)) ggL_law_L_test
set_option maxRecDepth 20000 in
theorem ggL_law_L_ready : GoodIn wsL_law wsL_ready := goodIn_ca (goodIn_r _ [337, 66, 338, 339, 340, 2, 341, 18, 74, 75, 76, 77, 78, 342, 343, 344, 17, 345, 38, 143, 144, 145, 146, 31, 32, 36, 147, 370, 371, 372, 373, 374, 375, 376, 377, 378, 379, 380] (by decide +kernel) (by decide +kernel)) (goodIn_sub (fun _ h => List.mem_append_left _ (List.mem_append_right _ h)) (by decide +kernel))
set_option maxRecDepth 20000 in
theorem gL_law_L_ready : GoodIn wsL_law (va_wsS RL 91 yL_ready wsL_ready) := goodIn_app (goodIn_of _ (by decide +kernel)) ggL_law_L_ready
set_option maxRecDepth 20000 in
theorem ggL_law_L_mend : GoodIn wsL_law wsL_mend := goodIn_ca (goodIn_ca (goodIn_r _ [206, 116, 67, 207, 208, 209, 2, 210, 72, 73, 18, 191, 192, 193, 194, 125, 126, 79, 80, 81, 17, 82, 38, 195, 196, 197, 198, 32, 211, 212, 213, 214, 35, 199, 200, 201, 202, 37, 203, 31, 87, 88, 89, 90, 91, 92, 148, 149, 150, 151, 370, 371, 372, 373, 374, 375, 376, 377, 378, 379, 380] (by decide +kernel) (by decide +kernel)) (goodIn_sub (fun _ h => List.mem_append_left _ (List.mem_append_left _ (List.mem_append_right _ h))) (by decide +kernel))) (goodIn_sub (fun _ h => List.mem_append_right _ h) (by decide +kernel))
set_option maxRecDepth 20000 in
theorem gL_law_L_mend : GoodIn wsL_law (va_wsS RL 126 yL_mend wsL_mend) := goodIn_app (goodIn_of _ (by decide +kernel)) ggL_law_L_mend
set_option maxRecDepth 20000 in
theorem ggL_law_L_placeOf : GoodIn wsL_law wsL_placeOf := goodIn_ca (goodIn_r _ [369, 116, 311, 312, 313, 2, 314, 18, 191, 192, 193, 194, 125, 126, 79, 80, 81, 17, 82, 38, 195, 196, 197, 198, 32, 370, 371, 372, 373, 374, 375, 376, 377, 378, 379, 380] (by decide +kernel) (by decide +kernel)) (goodIn_sub (fun _ h => List.mem_append_right _ h) (by decide +kernel))
set_option maxRecDepth 20000 in
theorem gL_law_L_placeOf : GoodIn wsL_law (va_wsS RL 104 yL_placeOf wsL_placeOf) := goodIn_app (goodIn_of _ (by decide +kernel)) ggL_law_L_placeOf
set_option maxRecDepth 20000 in
theorem ggL_law_X3_rackCharge : GoodIn wsL_law wsX3_rackCharge := goodIn_r _ [361, 18, 362, 363, 364, 17, 365, 38, 32, 36, 37, 366, 370, 371, 372, 373, 374, 375, 376, 377, 378, 379, 380] (by decide +kernel) (by decide +kernel)
set_option maxRecDepth 20000 in
theorem gL_law_X3_rackCharge : GoodIn wsL_law (wsV RL 99 RX3 yX3_rackCharge wsX3_rackCharge) := goodIn_app (goodIn_of _ (by decide +kernel)) ggL_law_X3_rackCharge
theorem dL_law_0 : decode cL_law 0 = .ok (.new 9, 3) := by decide +kernel
theorem dL_law_3 : decode cL_law 3 = .ok (.dup, 1) := by decide +kernel
theorem dL_law_4 : decode cL_law 4 = .ok (.invokespecial 138, 3) := by decide +kernel
theorem dL_law_7 : decode cL_law 7 = .ok (.astore_n 1, 1) := by decide +kernel
theorem dL_law_8 : decode cL_law 8 = .ok (.bipush 40, 2) := by decide +kernel
theorem dL_law_10 : decode cL_law 10 = .ok (.newarray .int, 2) := by decide +kernel
theorem dL_law_12 : decode cL_law 12 = .ok (.astore_n 2, 1) := by decide +kernel
theorem dL_law_13 : decode cL_law 13 = .ok (.bipush 40, 2) := by decide +kernel
theorem dL_law_15 : decode cL_law 15 = .ok (.newarray .double, 2) := by decide +kernel
theorem dL_law_17 : decode cL_law 17 = .ok (.astore_n 3, 1) := by decide +kernel
theorem dL_law_18 : decode cL_law 18 = .ok (.bipush 40, 2) := by decide +kernel
theorem dL_law_20 : decode cL_law 20 = .ok (.newarray .double, 2) := by decide +kernel
theorem dL_law_22 : decode cL_law 22 = .ok (.astore 4, 2) := by decide +kernel
theorem dL_law_24 : decode cL_law 24 = .ok (.bipush 30, 2) := by decide +kernel
theorem dL_law_26 : decode cL_law 26 = .ok (.newarray .int, 2) := by decide +kernel
theorem dL_law_28 : decode cL_law 28 = .ok (.astore 5, 2) := by decide +kernel
theorem dL_law_30 : decode cL_law 30 = .ok (.bipush 30, 2) := by decide +kernel
theorem dL_law_32 : decode cL_law 32 = .ok (.newarray .int, 2) := by decide +kernel
theorem dL_law_34 : decode cL_law 34 = .ok (.astore 6, 2) := by decide +kernel
theorem dL_law_36 : decode cL_law 36 = .ok (.bipush 30, 2) := by decide +kernel
theorem dL_law_38 : decode cL_law 38 = .ok (.newarray .int, 2) := by decide +kernel
theorem dL_law_40 : decode cL_law 40 = .ok (.astore 7, 2) := by decide +kernel
theorem dL_law_42 : decode cL_law 42 = .ok (.bipush 30, 2) := by decide +kernel
theorem dL_law_44 : decode cL_law 44 = .ok (.newarray .int, 2) := by decide +kernel
theorem dL_law_46 : decode cL_law 46 = .ok (.astore 8, 2) := by decide +kernel
theorem dL_law_48 : decode cL_law 48 = .ok (.bipush 30, 2) := by decide +kernel
theorem dL_law_50 : decode cL_law 50 = .ok (.newarray .int, 2) := by decide +kernel
theorem dL_law_52 : decode cL_law 52 = .ok (.astore 9, 2) := by decide +kernel
theorem dL_law_54 : decode cL_law 54 = .ok (.bipush 30, 2) := by decide +kernel
theorem dL_law_56 : decode cL_law 56 = .ok (.newarray .int, 2) := by decide +kernel
theorem dL_law_58 : decode cL_law 58 = .ok (.astore 10, 2) := by decide +kernel
theorem dL_law_60 : decode cL_law 60 = .ok (.iconst 4, 1) := by decide +kernel
theorem dL_law_61 : decode cL_law 61 = .ok (.newarray .int, 2) := by decide +kernel
theorem dL_law_63 : decode cL_law 63 = .ok (.astore 11, 2) := by decide +kernel
theorem dL_law_65 : decode cL_law 65 = .ok (.iconst 0, 1) := by decide +kernel
theorem dL_law_66 : decode cL_law 66 = .ok (.istore 12, 2) := by decide +kernel
theorem dL_law_68 : decode cL_law 68 = .ok (.iload 12, 2) := by decide +kernel
theorem dL_law_70 : decode cL_law 70 = .ok (.sipush 160, 3) := by decide +kernel
theorem dL_law_73 : decode cL_law 73 = .ok (.if_icmp .ge 119, 3) := by decide +kernel
theorem dL_law_76 : decode cL_law 76 = .ok (.aload_n 0, 1) := by decide +kernel
theorem dL_law_77 : decode cL_law 77 = .ok (.iconst 2, 1) := by decide +kernel
theorem dL_law_78 : decode cL_law 78 = .ok (.iload 12, 2) := by decide +kernel
theorem dL_law_80 : decode cL_law 80 = .ok (.imul, 1) := by decide +kernel
theorem dL_law_81 : decode cL_law 81 = .ok (.invokestatic 139, 3) := by decide +kernel
theorem dL_law_84 : decode cL_law 84 = .ok (.istore 13, 2) := by decide +kernel
theorem dL_law_86 : decode cL_law 86 = .ok (.aload_n 0, 1) := by decide +kernel
theorem dL_law_87 : decode cL_law 87 = .ok (.iconst 2, 1) := by decide +kernel
theorem dL_law_88 : decode cL_law 88 = .ok (.iload 12, 2) := by decide +kernel
theorem dL_law_90 : decode cL_law 90 = .ok (.imul, 1) := by decide +kernel
theorem dL_law_91 : decode cL_law 91 = .ok (.iconst 1, 1) := by decide +kernel
theorem dL_law_92 : decode cL_law 92 = .ok (.iadd, 1) := by decide +kernel
theorem dL_law_93 : decode cL_law 93 = .ok (.invokestatic 139, 3) := by decide +kernel
theorem dL_law_96 : decode cL_law 96 = .ok (.istore 14, 2) := by decide +kernel
theorem dL_law_98 : decode cL_law 98 = .ok (.aload_n 1, 1) := by decide +kernel
theorem dL_law_99 : decode cL_law 99 = .ok (.iload 12, 2) := by decide +kernel
theorem dL_law_101 : decode cL_law 101 = .ok (.iconst 5, 1) := by decide +kernel
theorem dL_law_102 : decode cL_law 102 = .ok (.if_icmp .ge 7, 3) := by decide +kernel
theorem dL_law_105 : decode cL_law 105 = .ok (.iconst 0, 1) := by decide +kernel
theorem dL_law_106 : decode cL_law 106 = .ok (.goto 16, 3) := by decide +kernel
theorem dL_law_109 : decode cL_law 109 = .ok (.iload 12, 2) := by decide +kernel
theorem dL_law_111 : decode cL_law 111 = .ok (.bipush 10, 2) := by decide +kernel
theorem dL_law_113 : decode cL_law 113 = .ok (.if_icmp .ge 7, 3) := by decide +kernel
theorem dL_law_116 : decode cL_law 116 = .ok (.iconst 4, 1) := by decide +kernel
theorem dL_law_117 : decode cL_law 117 = .ok (.goto 5, 3) := by decide +kernel
theorem dL_law_120 : decode cL_law 120 = .ok (.iload 13, 2) := by decide +kernel
theorem dL_law_122 : decode cL_law 122 = .ok (.iload 14, 2) := by decide +kernel
theorem dL_law_124 : decode cL_law 124 = .ok (.aload_n 2, 1) := by decide +kernel
theorem dL_law_125 : decode cL_law 125 = .ok (.aload_n 3, 1) := by decide +kernel
theorem dL_law_126 : decode cL_law 126 = .ok (.aload 4, 2) := by decide +kernel
theorem dL_law_128 : decode cL_law 128 = .ok (.aload 5, 2) := by decide +kernel
theorem dL_law_130 : decode cL_law 130 = .ok (.aload 6, 2) := by decide +kernel
theorem dL_law_132 : decode cL_law 132 = .ok (.aload 7, 2) := by decide +kernel
theorem dL_law_134 : decode cL_law 134 = .ok (.aload 8, 2) := by decide +kernel
theorem dL_law_136 : decode cL_law 136 = .ok (.aload 9, 2) := by decide +kernel
theorem dL_law_138 : decode cL_law 138 = .ok (.aload 10, 2) := by decide +kernel
theorem dL_law_140 : decode cL_law 140 = .ok (.aload 11, 2) := by decide +kernel
theorem dL_law_142 : decode cL_law 142 = .ok (.invokestatic 143, 3) := by decide +kernel
theorem dL_law_145 : decode cL_law 145 = .ok (.ifCond .eq 39, 3) := by decide +kernel
theorem dL_law_148 : decode cL_law 148 = .ok (.aload_n 1, 1) := by decide +kernel
theorem dL_law_149 : decode cL_law 149 = .ok (.aload 6, 2) := by decide +kernel
theorem dL_law_151 : decode cL_law 151 = .ok (.aload 7, 2) := by decide +kernel
theorem dL_law_153 : decode cL_law 153 = .ok (.aload 8, 2) := by decide +kernel
theorem dL_law_155 : decode cL_law 155 = .ok (.aload 9, 2) := by decide +kernel
theorem dL_law_157 : decode cL_law 157 = .ok (.aload 10, 2) := by decide +kernel
theorem dL_law_159 : decode cL_law 159 = .ok (.aload 11, 2) := by decide +kernel
theorem dL_law_161 : decode cL_law 161 = .ok (.invokestatic 147, 3) := by decide +kernel
theorem dL_law_164 : decode cL_law 164 = .ok (.ifCond .eq 20, 3) := by decide +kernel
theorem dL_law_167 : decode cL_law 167 = .ok (.aload_n 1, 1) := by decide +kernel
theorem dL_law_168 : decode cL_law 168 = .ok (.aload_n 2, 1) := by decide +kernel
theorem dL_law_169 : decode cL_law 169 = .ok (.aload_n 3, 1) := by decide +kernel
theorem dL_law_170 : decode cL_law 170 = .ok (.aload 4, 2) := by decide +kernel
theorem dL_law_172 : decode cL_law 172 = .ok (.aload 5, 2) := by decide +kernel
theorem dL_law_174 : decode cL_law 174 = .ok (.aload 6, 2) := by decide +kernel
theorem dL_law_176 : decode cL_law 176 = .ok (.aload 11, 2) := by decide +kernel
theorem dL_law_178 : decode cL_law 178 = .ok (.invokestatic 151, 3) := by decide +kernel
theorem dL_law_181 : decode cL_law 181 = .ok (.ifCond .ne 5, 3) := by decide +kernel
theorem dL_law_184 : decode cL_law 184 = .ok (.iconst 0, 1) := by decide +kernel
theorem dL_law_185 : decode cL_law 185 = .ok (.ireturn, 1) := by decide +kernel
theorem dL_law_186 : decode cL_law 186 = .ok (.iinc 12 1, 3) := by decide +kernel
theorem dL_law_189 : decode cL_law 189 = .ok (.goto (-121), 3) := by decide +kernel
end
section
-- the row of the printed names, its heap strictly greater behind the throw
section VWT
variable {p : Program} {l : Launch} {e : Env} {R : Room} {s : State} {m : MethodId} {args : Array Value} {below : List Frame} {meth : Method} {c : Code} {H : Heap} {locs : List Loc} {cells slots : Nat} {Q : State → Prop}
variable {mc ms : Nat} {free : Addr → Prop} {A0 A1 : Nat → Prop} {H0 : Heap} {a : Array Value} {ls : Array Slot} {st0 rest : List Value}
variable {Qc : Array Value → State → Outcome → State → Prop} {XC : String → State → State → Prop}
theorem vw_throwS {cc : ByteArray} {pc : Nat} (hexec : p.tables.exec = Jvm.exec) (hb : c.code = cc) (hl : l.stackTraces = false) {own cls text : String} {names : List String} {ik is ic mc ms sa : Nat} {A : Nat → Prop}
    (hown : s.vm.findClass own = some m.cls) (hcls : Bundle.fit cls = true) (hnames : ∀ n ∈ names, Bundle.fit n = true)
    (hk : (Cond.classLink own ik cls).before args s = true) (hini : (Cond.initialized cls).before args s = true) (hstr : vk_R own is text sa s) (hat : ∀ w ∈ vx_atS own ic cls names, w.before args s = true)
    (hgood : ∀ w ∈ Cond.classLink own ik cls :: Cond.initialized cls :: vx_atS own ic cls names, vx_ot w = true)
    (hU : vx_Zq Bundle.tN "UNASSIGNED_STACK" Bundle.steD A s s.heap) (hN : vx_Zq Bundle.tN "SUPPRESSED_SENTINEL" Bundle.listD A s s.heap) (hS : va_S A s.heap H locs) (hsize : ls.size = c.maxLocals)
    (d0 : decode cc pc = .ok (.new ik, 3)) (d3 : decode cc (pc + 3) = .ok (.dup, 1)) (d4 : decode cc (pc + 4) = .ok (.ldc is, 2)) (d6 : decode cc (pc + 6) = .ok (.invokespecial ic, 3)) (d9 : decode cc (pc + 9) = .ok (.athrow, 1))
    (hout : ∀ x ∈ c.exceptionTable.toList, covers x (pc + 9) = false)
    (hRframes : names.length + 3 < R.frames) (hRlocals : (rest.map fun v => v.category).sum + (13 * (names.length + 1) + 43) ≤ R.locals) (hRcells : cells + 1 ≤ R.cells) (hRslots : slots + 6 ≤ R.slots) (hlocks : meth.locks = false)
    (hx : ∀ t : State, s.vm.Alike t.vm → H.size < t.heap.size → (∀ q : Nat, q < H.size → t.heap[q]? = H[q]?) → XC cls s t)
    (hf : ∀ z ∈ locs, free z.base) (hc : cells + 1 ≤ mc) (hs : slots + 6 ≤ ms) :
    W p l e R s m args below meth c H locs cells slots (vx_MQ below Qc XC args s mc ms free) (F0 m pc ls rest) := by
  intro T hT X
  have htr : e.platform.stackTraces = false := (show e.platform.stackTraces = l.stackTraces by rw [X.admits.platform]).trans hl
  have Y := vx_rebase X (R' := { frames := R.frames, locals := R.locals, cells := 1, slots := 6 }) (Nat.le_refl _) (Nat.le_refl _) hRcells hRslots
  obtain ⟨s', hA⟩ : ∃ z, z = (T.setVm s.vm).setFrames (.invoking m args :: below) := ⟨_, rfl⟩
  rw [← hA] at Y
  have hvm : s'.vm = s.vm := by rw [hA]; rfl
  have hhp : s'.heap = H := by rw [hA]; exact hT
  have hW0 : s.WarmedH s'.vm := by rw [hvm]; exact State.WarmedH.refl s
  have hat' : ∀ w ∈ vx_atS own ic cls names, w.before args s' = true := fun w hw => vx_ot_at hW0 hvm.symm (hgood w (List.mem_cons_of_mem _ (List.mem_cons_of_mem _ hw))) (hat w hw)
  have hk' : (Cond.classLink own ik cls).before args s' = true := vx_ot_at hW0 hvm.symm (hgood _ List.mem_cons_self) hk
  have hini' : (Cond.initialized cls).before args s' = true := vx_ot_at hW0 hvm.symm (hgood _ (List.mem_cons_of_mem _ List.mem_cons_self)) hini
  have hU' : vx_Zq Bundle.tN "UNASSIGNED_STACK" Bundle.steD A s' s'.heap := by rw [hhp]; exact vx_Zq.moved hW0.alike (hU.kept hS.2.1)
  have hN' : vx_Zq Bundle.tN "SUPPRESSED_SENTINEL" Bundle.listD A s' s'.heap := by rw [hhp]; exact vx_Zq.moved hW0.alike (hN.kept hS.2.1)
  have h : ∀ w ∈ Bundle.ownAtoms own ic cls names, w.before args s' = true := vx_own hat' (vx_isRefq hU'.1) (vx_isRefq hN'.1) hU'.2.word hN'.2.word
  have hown' : s'.vm.findClass own = some m.cls := by rw [hvm]; exact hown
  have hins : (Cond.instantiable cls 6).before args s' = true := h _ (by simp [Bundle.ownAtoms])
  obtain ⟨vm₁, cX, kX, hfX, hkX, -, -, X₁, st1⟩ := Y.newCold hexec (own := own) (C := cls) (index := ik) (n := 6) hown' hk' hins hini'
    (g := F0 m pc ls rest) rfl (by rw [hb]; exact d0) (Nat.le_refl _) (Nat.le_refl _)
  generalize hT1 : (T.setVm vm₁).pushCell { cls := cX, slots := kX.instanceTypes.map defaultValue, vm := .none } = T1 at X₁ st1
  have hcat : (Value.ref T.heap.size).category = 1 := rfl
  have hcellA : T1.heap[T.heap.size]? = some (freshCell cX kX) := by rw [← hT1]; exact State.heap_pushCell_size _ _
  have d3' : decode c.code (pc + 3) = .ok (.dup, 1) := by rw [hb]; exact d3
  have d4' : decode c.code (pc + 4) = .ok (.ldc is, 2) := by rw [hb]; exact d4
  have hstr' : vk_R own is text sa s' := vk_R.warm hW0 hstr
  obtain ⟨U, hsteps, hrun, hend, hW, hsame, ce, hce, hO⟩ := X₁.ctorThrowS hexec htr (own := own) (cls := cls) (names := names) (ic := ic) hown' hcls hnames h (fun x hx => nomatch hx) hfX hkX hcellA (by rw [hhp, hT]; exact Nat.le_refl _) (msg := .ref sa) rfl
    (g := { method := m, pc := pc + 6, locals := ls, stack := .ref sa :: .ref T.heap.size :: .ref T.heap.size :: rest, locked := none }) rfl hsize rfl rfl (rest := rest) rfl
    (by rw [hb]; exact d6) (by rw [hb]; exact d9) hout hRframes (by simp only [List.map_cons, List.sum_cons, hcat]; omega) hlocks
  obtain ⟨f1, f2⟩ := vx_frame hsame
  rw [hhp] at f1 f2
  have f9 : H.size < U.heap.size := by
    have h9 := (Array.getElem?_eq_some_iff.mp hce).1
    rw [hT] at h9
    exact h9
  have hWs : s.WarmedH U.vm := State.WarmedH.trans hW0 hW
  have hcl : s.vm.findClass cls = some ce.cls := by
    have h9 := hO.cls
    rw [hvm] at h9
    exact h9
  have hall : s.sameButNew ({ U with vm := s.vm } : State) locs mc ms := by
    subst hA
    obtain ⟨e1, e2⟩ := hsame
    rw [State.setFrames_setFrames] at e1
    have h2 : (T.setVm s.vm).sameButNew ({ U with vm := s.vm } : State) [] (0 + 1) (0 + 6) := ⟨e1, e2⟩
    have h3 := X.same.trans h2
    rw [List.append_nil] at h3
    exact h3.mono hc hs
  refine ⟨U, ?_, .threw T.heap.size, hrun, hend, Or.inr ⟨T.heap.size, rfl, cls, ce, locs, hx U hWs.alike f9 (fun q hq => f2 q hq (fun z hz => nomatch hz)), hce, hO.vm, hcl, hWs, hall, hf⟩⟩
  refine st1 _ ?_
  show Steps p.tables e below (T1.setTop { method := m, pc := pc + 3, locals := ls, stack := .ref T.heap.size :: rest, locked := none }) _
  jvm_step X₁.here [X₁.here.top, hexec, d3', Value.category]
  exact X₁.ldcString hexec (own := own) (text := text) (index := is) (a := sa) hown' hstr'.1 hstr'.2
    (g := { method := m, pc := pc + 4, locals := ls, stack := .ref T.heap.size :: .ref T.heap.size :: rest, locked := none }) rfl d4' _ hsteps
end VWT
end
section
/-! own rows: contracts over one shape, calls with their frame, rows by a numbered place, a loop -/
abbrev zq_T (cI cZ cD : ClassId) : List (ClassId × FieldType) := [(cI, .int), (cZ, .boolean), (cD, .double)]
def zq_Pre (D : va_G) (ty : List (ClassId × FieldType)) (ws : va_W) (sz : Nat) : State → Prop := fun U => U.heap.size = sz ∧ va_P D vwCl ws U.heap ∧ va_K D vwCl ty U ∧ va_D (fun _ => True) ws
def zq_B (D : va_G) (ty : List (ClassId × FieldType)) (A : Nat → Prop) (ws : va_W) : Unit → State → Prop := fun _ t => va_P D vwCl ws t.heap ∧ va_K D vwCl ty t ∧ va_D A ws
abbrev zq_Mi (l : Launch) (y : MethodName) (wsy : List Cond) (rm : Room) (D : va_G) (ty : List (ClassId × FieldType)) (as : List Value) (w0 : va_W) (res : Int32) (w1 : va_W) (sz : Nat) : Prop :=
  Met l y wsy rm (va_Pc as (zq_Pre D ty w0 sz)) (va_Qi (fun (r : Int32) (_ : Unit) => r = res) (zq_B D ty (va_A w0 sz) w1) (va_A w0 sz)) 0 0 (va_A w0 sz)
abbrev zq_Md (l : Launch) (y : MethodName) (wsy : List Cond) (rm : Room) (D : va_G) (ty : List (ClassId × FieldType)) (as : List Value) (w0 : va_W) (res : UInt64) (w1 : va_W) (sz : Nat) : Prop :=
  Met l y wsy rm (va_Pc as (zq_Pre D ty w0 sz)) (va_Qd (fun (r : UInt64) (_ : Unit) => r = res) (zq_B D ty (va_A w0 sz) w1) (va_A w0 sz)) 0 0 (va_A w0 sz)
abbrev zq_Mv (l : Launch) (y : MethodName) (wsy : List Cond) (rm : Room) (D : va_G) (ty : List (ClassId × FieldType)) (as : List Value) (w0 : va_W) (w1 : va_W) (sz : Nat) : Prop :=
  Met l y wsy rm (va_Pc as (zq_Pre D ty w0 sz)) (va_Qv (fun (_ : Unit) => True) (zq_B D ty (va_A w0 sz) w1) (va_A w0 sz)) 0 0 (va_A w0 sz)
abbrev zq_Si (l : Launch) (y : MethodName) (wsy : List Cond) (rm : Room) (as : List Value) (res : Int32) : Prop :=
  Met l y wsy rm (va_Pc as (fun _ => True)) (va_Qi (fun (r : Int32) (_ : Unit) => r = res) (fun _ _ => True) (fun _ => False)) 0 0 (fun _ => False)
abbrev zq_Sd (l : Launch) (y : MethodName) (wsy : List Cond) (rm : Room) (as : List Value) (res : UInt64) : Prop :=
  Met l y wsy rm (va_Pc as (fun _ => True)) (va_Qd (fun (r : UInt64) (_ : Unit) => r = res) (fun _ _ => True) (fun _ => False)) 0 0 (fun _ => False)
theorem zq_blind {as : List Value} {D : va_G} {ty : List (ClassId × FieldType)} {ws : va_W} {sz : Nat} : FrameBlind (va_Pc as (zq_Pre D ty ws sz)) :=
  fun a U g mk q => by
    obtain ⟨q0, q1, qP, qK, qD⟩ := q
    exact ⟨q0, q1, qP, va_K.moved (u := U) (U := U.calling g mk a) (Vm.Alike.refl U.vm) qK, qD⟩
theorem zq_fm {α β : Type} {f : α → Option β} : ∀ {is : List α} {wc : List β}, is.map f = wc.map some → is.filterMap f = wc
  | [], wc, h => by cases wc with | nil => rfl | cons _ _ => simp at h
  | i :: is, wc, h => by
    cases wc with
    | nil => simp at h
    | cons w wc =>
      simp only [List.map_cons, List.cons.injEq] at h
      rw [List.filterMap_cons, h.1, zq_fm h.2]
section ZQ
variable {p : Program} {l : Launch} {e : Env} {R : Room} {s : State} {m : MethodId} {args : Array Value} {below : List Frame} {meth : Method} {c : Code} {H : Heap} {locs : List Loc} {cells slots : Nat} {Q : State → Prop} {cc : ByteArray} {pc : Nat} {ls : Array Slot} {rest st0 : List Value}
variable {D : va_G} {ty : List (ClassId × FieldType)} {A : Nat → Prop} {H0 : Heap} {ws wc wr w1 ws' : va_W} {y : MethodName} {bytes : ByteArray} {maxL nL n index : Nat} {ret : Option FieldType} {wsy Ts : List Cond} {rm : Room} {own C : String} {b ci N : Nat} {T : u_T} {fs As : List Value}
/-- behind a call on some of the cells: what came back beside the rest, in the order pm -/
theorem zq_back {H1 : Heap} {t : State} (hP : va_P D vwCl ws H) (hD : va_D A ws) (hS : va_S A H0 H locs) (hA : ∀ q, H0.size ≤ q → A q) (isC isR : List Nat) (hC : isC.map (fun i => ws[i]?) = wc.map some) (hR : isR.map (fun i => ws[i]?) = wr.map some) (hn : va_nd isR = true) (hdis : ∀ i ∈ isR, i ∉ isC)
    (pm : List Nat) (hpm : pm.map (fun i => (wr ++ w1)[i]?) = ws'.map some) (hnp : va_nd pm = true) (ht : t.heap = H1) (hk : ∀ q : Nat, q < H.size → ¬ va_A wc H.size q → H1[q]? = H[q]?) (hB : zq_B D ty (va_A wc H.size) w1 () t) : va_P D vwCl ws' H1 ∧ va_D A ws' := by
  obtain ⟨hP1, -, hD1⟩ := hB
  rw [ht] at hP1
  obtain ⟨hP2, hD2⟩ := va_join (wr := wr) (w1 := w1) hP hD isC isR hC hR hn hdis hk (va_free hD hS hA isC hC) hP1 hD1
  exact ⟨hP2.sub pm (zq_fm hpm), hD2.sub pm hnp hpm⟩
theorem zq_pre (hK : va_K D vwCl ty s) (hP : va_P D vwCl ws H) (hD : va_D A ws) (isC : List Nat) (hC : isC.map (fun i => ws[i]?) = wc.map some) (hnC : va_nd isC = true) : ∀ U : State, U.heap = H → s.WarmedH U.vm → va_Pc As (zq_Pre D ty wc H.size) As.toArray U :=
  fun U hU hW => ⟨rfl, by rw [hU], by rw [hU]; exact hP.sub isC (zq_fm hC), va_K.moved hW.alike hK, (hD.sub isC hnC hC).weaken (fun _ _ _ _ => trivial)⟩
theorem zq_cVi {res : Int32} (S : CallFix p m c cc nL s args Ts own) (hM : zq_Mi l y wsy rm D ty (.ref b :: As) wc res w1 H.size) (cw : CallW R s args own C index y bytes maxL ret wsy rm 0 0 n)
    (hK : va_K D vwCl ty s) (hP : va_P D vwCl ws H) (hD : va_D A ws) (hS : va_S A H0 H locs) (hA : ∀ q, H0.size ≤ q → A q) (isC isR pm : List Nat) (hC : isC.map (fun i => ws[i]?) = wc.map some) (hnC : va_nd isC = true) (hR : isR.map (fun i => ws[i]?) = wr.map some) (hn : va_nd isR = true) (hdis : ∀ i ∈ isR, i ∉ isC)
    (hpm : pm.map (fun i => (wr ++ w1)[i]?) = ws'.map some) (hnp : va_nd pm = true) (hc : vwCl[ci]? = some (C, T, N)) (q0 : Nat) (he : wc[q0]? = some (b, .inr (ci, fs))) (hln : As.length = n) (hsz : ls.size = nL) (hst : st0 = As.reverse ++ .ref b :: rest) (hW : (rest.map fun v => v.category).sum ≤ 8) (hdg : decode cc pc = .ok (.invokevirtual index, 3)) (hcs : cells ≤ R.cells ∧ slots ≤ R.slots)
    (kk : ∀ (H1 : Heap) (locs1 : List Loc), va_P D vwCl ws' H1 → va_D A ws' → va_S A H0 H1 locs1 → W p l e R s m args below meth c H1 locs1 cells slots Q (F0 m (pc + 3) ls (.int res :: rest))) : W p l e R s m args below meth c H locs cells slots Q (F0 m pc ls st0) := by
  have hFc := va_free hD hS hA isC hC
  refine va_calli (va_runV (As := As) (rest := rest) S hM cw ⟨zq_blind, va_recv hK (hP.sub isC (zq_fm hC)) hc he, zq_pre hK hP hD isC hC hnC⟩ rfl hln hsz hst (lv_room hW) hdg hcs) hS (fun q _ h => hFc q h) hFc (fun r u t H1 locs1 ht hvm hw hB hz1 hk1 hS1 => ?_)
  subst hw
  obtain ⟨h1, h2⟩ := zq_back hP hD hS hA isC isR hC hR hn hdis pm hpm hnp ht hk1 hB
  exact kk H1 locs1 h1 h2 hS1
theorem zq_cVd {res : UInt64} (S : CallFix p m c cc nL s args Ts own) (hM : zq_Md l y wsy rm D ty (.ref b :: As) wc res w1 H.size) (cw : CallW R s args own C index y bytes maxL ret wsy rm 0 0 n)
    (hK : va_K D vwCl ty s) (hP : va_P D vwCl ws H) (hD : va_D A ws) (hS : va_S A H0 H locs) (hA : ∀ q, H0.size ≤ q → A q) (isC isR pm : List Nat) (hC : isC.map (fun i => ws[i]?) = wc.map some) (hnC : va_nd isC = true) (hR : isR.map (fun i => ws[i]?) = wr.map some) (hn : va_nd isR = true) (hdis : ∀ i ∈ isR, i ∉ isC)
    (hpm : pm.map (fun i => (wr ++ w1)[i]?) = ws'.map some) (hnp : va_nd pm = true) (hc : vwCl[ci]? = some (C, T, N)) (q0 : Nat) (he : wc[q0]? = some (b, .inr (ci, fs))) (hln : As.length = n) (hsz : ls.size = nL) (hst : st0 = As.reverse ++ .ref b :: rest) (hW : (rest.map fun v => v.category).sum ≤ 8) (hdg : decode cc pc = .ok (.invokevirtual index, 3)) (hcs : cells ≤ R.cells ∧ slots ≤ R.slots)
    (kk : ∀ (H1 : Heap) (locs1 : List Loc), va_P D vwCl ws' H1 → va_D A ws' → va_S A H0 H1 locs1 → W p l e R s m args below meth c H1 locs1 cells slots Q (F0 m (pc + 3) ls (.double res :: rest))) : W p l e R s m args below meth c H locs cells slots Q (F0 m pc ls st0) := by
  have hFc := va_free hD hS hA isC hC
  refine va_calld (va_runV (As := As) (rest := rest) S hM cw ⟨zq_blind, va_recv hK (hP.sub isC (zq_fm hC)) hc he, zq_pre hK hP hD isC hC hnC⟩ rfl hln hsz hst (lv_room hW) hdg hcs) hS (fun q _ h => hFc q h) hFc (fun r u t H1 locs1 ht hvm hw hB hz1 hk1 hS1 => ?_)
  subst hw
  obtain ⟨h1, h2⟩ := zq_back hP hD hS hA isC isR hC hR hn hdis pm hpm hnp ht hk1 hB
  exact kk H1 locs1 h1 h2 hS1
theorem zq_cVv (S : CallFix p m c cc nL s args Ts own) (hM : zq_Mv l y wsy rm D ty (.ref b :: As) wc w1 H.size) (cw : CallW R s args own C index y bytes maxL ret wsy rm 0 0 n)
    (hK : va_K D vwCl ty s) (hP : va_P D vwCl ws H) (hD : va_D A ws) (hS : va_S A H0 H locs) (hA : ∀ q, H0.size ≤ q → A q) (isC isR pm : List Nat) (hC : isC.map (fun i => ws[i]?) = wc.map some) (hnC : va_nd isC = true) (hR : isR.map (fun i => ws[i]?) = wr.map some) (hn : va_nd isR = true) (hdis : ∀ i ∈ isR, i ∉ isC)
    (hpm : pm.map (fun i => (wr ++ w1)[i]?) = ws'.map some) (hnp : va_nd pm = true) (hc : vwCl[ci]? = some (C, T, N)) (q0 : Nat) (he : wc[q0]? = some (b, .inr (ci, fs))) (hln : As.length = n) (hsz : ls.size = nL) (hst : st0 = As.reverse ++ .ref b :: rest) (hW : (rest.map fun v => v.category).sum ≤ 8) (hdg : decode cc pc = .ok (.invokevirtual index, 3)) (hcs : cells ≤ R.cells ∧ slots ≤ R.slots)
    (kk : ∀ (H1 : Heap) (locs1 : List Loc), va_P D vwCl ws' H1 → va_D A ws' → va_S A H0 H1 locs1 → W p l e R s m args below meth c H1 locs1 cells slots Q (F0 m (pc + 3) ls rest)) : W p l e R s m args below meth c H locs cells slots Q (F0 m pc ls st0) := by
  have hFc := va_free hD hS hA isC hC
  refine va_callv (va_runV (As := As) (rest := rest) S hM cw ⟨zq_blind, va_recv hK (hP.sub isC (zq_fm hC)) hc he, zq_pre hK hP hD isC hC hnC⟩ rfl hln hsz hst (lv_room hW) hdg hcs) hS (fun q _ h => hFc q h) hFc (fun u t H1 locs1 ht hvm hw hB hz1 hk1 hS1 => ?_)
  obtain ⟨h1, h2⟩ := zq_back hP hD hS hA isC isR hC hR hn hdis pm hpm hnp ht hk1 hB
  exact kk H1 locs1 h1 h2 hS1
theorem zq_cSi {res : Int32} (S : CallFix p m c cc nL s args Ts own) (hM : zq_Si l y wsy rm As res) (cw : CallB R s args own index y bytes maxL ret wsy rm 0 0 n ∧ (Cond.static y).before args s = true)
    (hP : va_P D vwCl ws H) (hS : va_S A H0 H locs) (hln : As.length = n) (hsz : ls.size = nL) (hst : st0 = As.reverse ++ rest) (hW : (rest.map fun v => v.category).sum ≤ 8) (hdg : decode cc pc = .ok (.invokestatic index, 3)) (hcs : cells ≤ R.cells ∧ slots ≤ R.slots)
    (kk : ∀ (H1 : Heap) (locs1 : List Loc), va_P D vwCl ws H1 → va_S A H0 H1 locs1 → W p l e R s m args below meth c H1 locs1 cells slots Q (F0 m (pc + 3) ls (.int res :: rest))) : W p l e R s m args below meth c H locs cells slots Q (F0 m pc ls st0) := by
  refine va_calli (va_runS (As := As) (rest := rest) S hM cw ⟨fun a U g mk q => q, fun U hU hW => ⟨rfl, trivial⟩⟩ rfl hln hsz hst (lv_room hW) hdg hcs) hS (fun q _ h => h.elim) (fun q h => h.elim) (fun r u t H1 locs1 ht hvm hw hB hz1 hk1 hS1 => ?_)
  subst hw
  exact kk H1 locs1 (hP.kept (fun k q hk => hk1 q.1 (vx_lt hP hk) (fun h => h))) hS1
theorem zq_cSd {res : UInt64} (S : CallFix p m c cc nL s args Ts own) (hM : zq_Sd l y wsy rm As res) (cw : CallB R s args own index y bytes maxL ret wsy rm 0 0 n ∧ (Cond.static y).before args s = true)
    (hP : va_P D vwCl ws H) (hS : va_S A H0 H locs) (hln : As.length = n) (hsz : ls.size = nL) (hst : st0 = As.reverse ++ rest) (hW : (rest.map fun v => v.category).sum ≤ 8) (hdg : decode cc pc = .ok (.invokestatic index, 3)) (hcs : cells ≤ R.cells ∧ slots ≤ R.slots)
    (kk : ∀ (H1 : Heap) (locs1 : List Loc), va_P D vwCl ws H1 → va_S A H0 H1 locs1 → W p l e R s m args below meth c H1 locs1 cells slots Q (F0 m (pc + 3) ls (.double res :: rest))) : W p l e R s m args below meth c H locs cells slots Q (F0 m pc ls st0) := by
  refine va_calld (va_runS (As := As) (rest := rest) S hM cw ⟨fun a U g mk q => q, fun U hU hW => ⟨rfl, trivial⟩⟩ rfl hln hsz hst (lv_room hW) hdg hcs) hS (fun q _ h => h.elim) (fun q h => h.elim) (fun r u t H1 locs1 ht hvm hw hB hz1 hk1 hS1 => ?_)
  subst hw
  exact kk H1 locs1 (hP.kept (fun k q hk => hk1 q.1 (vx_lt hP hk) (fun h => h))) hS1
/-- a loop by its number of turns: what holds at its head with i turns done -/
theorem zq_loop (pc : Nat) (B : Nat) (Inv : Nat → Heap → List Loc → Array Slot → Prop)
    (hs : ∀ i, i ≤ B → (∀ (H : Heap) (locs : List Loc) (ls : Array Slot), i < B → Inv (i + 1) H locs ls → W p l e R s m args below meth c H locs cells slots Q (F0 m pc ls [])) → ∀ (H : Heap) (locs : List Loc) (ls : Array Slot), Inv i H locs ls → W p l e R s m args below meth c H locs cells slots Q (F0 m pc ls []))
    (i : Nat) (hi : i ≤ B) (H : Heap) (locs : List Loc) (ls : Array Slot) (h : Inv i H locs ls) : W p l e R s m args below meth c H locs cells slots Q (F0 m pc ls []) := by
  have K : ∀ (n i : Nat), i + n = B → ∀ (H : Heap) (locs : List Loc) (ls : Array Slot), Inv i H locs ls → W p l e R s m args below meth c H locs cells slots Q (F0 m pc ls []) := by
    intro n
    induction n with
    | zero => exact fun i e H locs ls h => hs i (by omega) (fun _ _ _ h => absurd h (by omega)) H locs ls h
    | succ n ih => exact fun i e H locs ls h => hs i (by omega) (fun H1 locs1 ls1 _ h2 => ih (i + 1) (by omega) H1 locs1 ls1 h2) H locs ls h
  exact K (B - i) i (by omega) H locs ls h
/-- rows by a numbered place -/
theorem zq_iald (hexec : p.tables.exec = Jvm.exec) (hb : c.code = cc) (hK : va_K D vwCl ty s) (hP : va_P D vwCl ws H) (q0 t0 : Nat) {a : Nat} {cA : ClassId} {n : Nat} {f : Nat → Int32} (ha : ws[q0]? = some (a, .inl (cA, n, .inl f))) (ht : ty[t0]? = some (cA, .int)) {j : Nat} (hj : j < n) (hn : n < 2 ^ 31) (hdg : decode cc pc = .ok (.iaload, 1))
    (kk : W p l e R s m args below meth c H locs cells slots Q (F0 m (pc + 1) ls (.int (f j) :: rest))) : W p l e R s m args below meth c H locs cells slots Q (F0 m pc ls (.int (nI j) :: .ref a :: rest)) :=
  va_iald hexec hb hK hP q0 t0 ha ht (vp_in_nI hj hn) hdg (by rw [nI_clamp (Nat.lt_trans hj hn)]; exact kk)
theorem zq_zald (hexec : p.tables.exec = Jvm.exec) (hb : c.code = cc) (hK : va_K D vwCl ty s) (hP : va_P D vwCl ws H) (q0 t0 : Nat) {a : Nat} {cA : ClassId} {n : Nat} {f : Nat → Int32} (ha : ws[q0]? = some (a, .inl (cA, n, .inl f))) (ht : ty[t0]? = some (cA, .boolean)) {j : Nat} (hj : j < n) (hn : n < 2 ^ 31) (hdg : decode cc pc = .ok (.baload, 1))
    (kk : W p l e R s m args below meth c H locs cells slots Q (F0 m (pc + 1) ls (.int (f j) :: rest))) : W p l e R s m args below meth c H locs cells slots Q (F0 m pc ls (.int (nI j) :: .ref a :: rest)) :=
  va_zald hexec hb hK hP q0 t0 ha ht (vp_in_nI hj hn) hdg (by rw [nI_clamp (Nat.lt_trans hj hn)]; exact kk)
theorem zq_dald (hexec : p.tables.exec = Jvm.exec) (hb : c.code = cc) (hK : va_K D vwCl ty s) (hP : va_P D vwCl ws H) (q0 t0 : Nat) {a : Nat} {cA : ClassId} {n : Nat} {f : Nat → UInt64} (ha : ws[q0]? = some (a, .inl (cA, n, .inr (.inr (.inr (.inl f)))))) (ht : ty[t0]? = some (cA, .double)) {j : Nat} (hj : j < n) (hn : n < 2 ^ 31) (hdg : decode cc pc = .ok (.daload, 1))
    (kk : W p l e R s m args below meth c H locs cells slots Q (F0 m (pc + 1) ls (.double (f j) :: rest))) : W p l e R s m args below meth c H locs cells slots Q (F0 m pc ls (.int (nI j) :: .ref a :: rest)) :=
  va_dald hexec hb hK hP q0 t0 ha ht (vp_in_nI hj hn) hdg (by rw [nI_clamp (Nat.lt_trans hj hn)]; exact kk)
theorem zq_iast (hexec : p.tables.exec = Jvm.exec) (hb : c.code = cc) (hK : va_K D vwCl ty s) (hP : va_P D vwCl ws H) (hD : va_D A ws) (hS : va_S A H0 H locs) (q0 t0 : Nat) {a : Nat} {cA : ClassId} {n : Nat} {f : Nat → Int32} (ha : ws[q0]? = some (a, .inl (cA, n, .inl f))) (ht : ty[t0]? = some (cA, .int)) {j : Nat} {x : Int32} (hj : j < n) (hn : n < 2 ^ 31) (ws' : va_W) (hw : ws.set q0 (a, .inl (cA, n, .inl (upd f j x))) = ws') (hdg : decode cc pc = .ok (.iastore, 1))
    (kk : ∀ (H1 : Heap) (locs1 : List Loc), va_P D vwCl ws' H1 → va_D A ws' → va_S A H0 H1 locs1 → W p l e R s m args below meth c H1 locs1 cells slots Q (F0 m (pc + 1) ls rest)) : W p l e R s m args below meth c H locs cells slots Q (F0 m pc ls (.int x :: .int (nI j) :: .ref a :: rest)) :=
  va_iast hexec hb hK hP hD hS q0 t0 ha ht (vp_in_nI hj hn) hdg (by rw [nI_clamp (Nat.lt_trans hj hn), hw]; exact kk)
theorem zq_zast (hexec : p.tables.exec = Jvm.exec) (hb : c.code = cc) (hK : va_K D vwCl ty s) (hP : va_P D vwCl ws H) (hD : va_D A ws) (hS : va_S A H0 H locs) (q0 t0 : Nat) {a : Nat} {cA : ClassId} {n : Nat} {f : Nat → Int32} (ha : ws[q0]? = some (a, .inl (cA, n, .inl f))) (ht : ty[t0]? = some (cA, .boolean)) {j : Nat} {x : Int32} (hj : j < n) (hn : n < 2 ^ 31) (hx : vp_nar .boolean x = x) (ws' : va_W) (hw : ws.set q0 (a, .inl (cA, n, .inl (upd f j x))) = ws') (hdg : decode cc pc = .ok (.bastore, 1))
    (kk : ∀ (H1 : Heap) (locs1 : List Loc), va_P D vwCl ws' H1 → va_D A ws' → va_S A H0 H1 locs1 → W p l e R s m args below meth c H1 locs1 cells slots Q (F0 m (pc + 1) ls rest)) : W p l e R s m args below meth c H locs cells slots Q (F0 m pc ls (.int x :: .int (nI j) :: .ref a :: rest)) :=
  va_zast hexec hb hK hP hD hS q0 t0 ha ht (vp_in_nI hj hn) hdg (by rw [hx, nI_clamp (Nat.lt_trans hj hn), hw]; exact kk)
theorem zq_dast (hexec : p.tables.exec = Jvm.exec) (hb : c.code = cc) (hK : va_K D vwCl ty s) (hP : va_P D vwCl ws H) (hD : va_D A ws) (hS : va_S A H0 H locs) (q0 t0 : Nat) {a : Nat} {cA : ClassId} {n : Nat} {f : Nat → UInt64} (ha : ws[q0]? = some (a, .inl (cA, n, .inr (.inr (.inr (.inl f)))))) (ht : ty[t0]? = some (cA, .double)) {j : Nat} {x : UInt64} (hj : j < n) (hn : n < 2 ^ 31) (ws' : va_W) (hw : ws.set q0 (a, .inl (cA, n, .inr (.inr (.inr (.inl (vf_upd f j x)))))) = ws') (hdg : decode cc pc = .ok (.dastore, 1))
    (kk : ∀ (H1 : Heap) (locs1 : List Loc), va_P D vwCl ws' H1 → va_D A ws' → va_S A H0 H1 locs1 → W p l e R s m args below meth c H1 locs1 cells slots Q (F0 m (pc + 1) ls rest)) : W p l e R s m args below meth c H locs cells slots Q (F0 m pc ls (.double x :: .int (nI j) :: .ref a :: rest)) :=
  va_dast hexec hb hK hP hD hS q0 t0 ha ht (vp_in_nI hj hn) hdg (by rw [nI_clamp (Nat.lt_trans hj hn), hw]; exact kk)
end ZQ
end
section
theorem zq_qi {D : va_G} {ty : List (ClassId × FieldType)} {A : Nat → Prop} {w1 : va_W} {s : State} {H : Heap} {locs : List Loc} {args : Array Value} {v res : Int32} (hv : v = res) (hP : va_P D vwCl w1 H) (hK : va_K D vwCl ty s) (hD : va_D A w1) (hS : va_S A s.heap H locs) : ∀ t : State, t.heap = H → s.WarmedH t.vm → va_Qi (fun (r : Int32) (_ : Unit) => r = res) (zq_B D ty A w1) A args s (.returned (some (.int v))) t :=
  fun t ht hW => ⟨⟨v, (), rfl, hv, by rw [ht]; exact hP, va_K.moved hW.alike hK, hD⟩, hS.F ht⟩
theorem zq_qd {D : va_G} {ty : List (ClassId × FieldType)} {A : Nat → Prop} {w1 : va_W} {s : State} {H : Heap} {locs : List Loc} {args : Array Value} {v res : UInt64} (hv : v = res) (hP : va_P D vwCl w1 H) (hK : va_K D vwCl ty s) (hD : va_D A w1) (hS : va_S A s.heap H locs) : ∀ t : State, t.heap = H → s.WarmedH t.vm → va_Qd (fun (r : UInt64) (_ : Unit) => r = res) (zq_B D ty A w1) A args s (.returned (some (.double v))) t :=
  fun t ht hW => ⟨⟨v, (), rfl, hv, by rw [ht]; exact hP, va_K.moved hW.alike hK, hD⟩, hS.F ht⟩
theorem zq_qv {D : va_G} {ty : List (ClassId × FieldType)} {A : Nat → Prop} {w1 : va_W} {s : State} {H : Heap} {locs : List Loc} {args : Array Value} (hP : va_P D vwCl w1 H) (hK : va_K D vwCl ty s) (hD : va_D A w1) (hS : va_S A s.heap H locs) : ∀ t : State, t.heap = H → s.WarmedH t.vm → va_Qv (fun (_ : Unit) => True) (zq_B D ty A w1) A args s (.returned none) t :=
  fun t ht hW => ⟨⟨(), rfl, trivial, by rw [ht]; exact hP, va_K.moved hW.alike hK, hD⟩, hS.F ht⟩
theorem zq_P0 {D : va_G} {H : Heap} : va_P D vwCl [] H := fun k q h => by simp at h
theorem zq_idiv {p : Program} {l : Launch} {e : Env} {R : Room} {s : State} {m : MethodId} {args : Array Value} {below : List Frame} {meth : Method} {c : Code} {H : Heap} {locs : List Loc} {cells slots : Nat} {Q : State → Prop} {cc : ByteArray} (hexec : p.tables.exec = Jvm.exec) (hb : c.code = cc) {x y : Int32} {pc : Nat} {ls : Array Slot} {rest : List Value} (hdg : decode cc pc = .ok (.idiv, 1)) (hne : ¬ y = 0) {v : Int32} (hv : x / y = v)
    (k : W p l e R s m args below meth c H locs cells slots Q (F0 m (pc + 1) ls (.int v :: rest))) : W p l e R s m args below meth c H locs cells slots Q (F0 m pc ls (.int y :: .int x :: rest)) := by
  subst hv
  exact lv_idiv hexec hb hdg hne k
abbrev wLa (a : Nat → Nat) (cI : ClassId) (cZ : ClassId) (cD : ClassId) (ki : Nat → Int32) (pl : Nat → Int32) (tu : Nat → Int32) (le : Nat → Int32) (ch : Nat → UInt64) (ca : Nat → UInt64) (n : Int32) : va_W := [(a 1, .inr (1, [.ref (a 2), .ref (a 3), .ref (a 4), .ref (a 5), .ref (a 6), .ref (a 7), .int n])), (a 2, .inl (cI, 40, .inl ki)), (a 3, .inl (cI, 40, .inl pl)), (a 4, .inl (cI, 40, .inl tu)), (a 5, .inl (cZ, 40, .inl le)), (a 6, .inl (cD, 40, .inr (.inr (.inr (.inl ch))))), (a 7, .inl (cD, 40, .inr (.inr (.inr (.inl ca)))))]
abbrev wTa (a : Nat → Nat) (cI : ClassId) (tk : Nat → Int32) (th : Nat → Int32) (hu : Nat → Int32) (od : Nat → Int32) (tn : Int32) (ti : Int32) : va_W := [(a 8, .inr (2, [.ref (a 9), .ref (a 10), .ref (a 11), .ref (a 12), .int tn, .int ti])), (a 9, .inl (cI, 30, .inl tk)), (a 10, .inl (cI, 30, .inl th)), (a 11, .inl (cI, 30, .inl hu)), (a 12, .inl (cI, 30, .inl od))]
abbrev wAl (a : Nat → Nat) (cI : ClassId) (be : Nat → Int32) : va_W := [(a 13, .inr (0, [.ref (a 14)])), (a 14, .inl (cI, 60, .inl be))]
abbrev wRm (a : Nat → Nat) (clk : Int32) : Nat × va_E := (a 0, .inr (3, [.ref (a 1), .ref (a 8), .ref (a 13), .int clk]))
abbrev wRo (a : Nat → Nat) (cI : ClassId) (cZ : ClassId) (cD : ClassId) (ki : Nat → Int32) (pl : Nat → Int32) (tu : Nat → Int32) (le : Nat → Int32) (ch : Nat → UInt64) (ca : Nat → UInt64) (n : Int32) (tk : Nat → Int32) (th : Nat → Int32) (hu : Nat → Int32) (od : Nat → Int32) (tn : Int32) (ti : Int32) (be : Nat → Int32) (clk : Int32) : va_W := [(a 0, .inr (3, [.ref (a 1), .ref (a 8), .ref (a 13), .int clk])), (a 1, .inr (1, [.ref (a 2), .ref (a 3), .ref (a 4), .ref (a 5), .ref (a 6), .ref (a 7), .int n])), (a 2, .inl (cI, 40, .inl ki)), (a 3, .inl (cI, 40, .inl pl)), (a 4, .inl (cI, 40, .inl tu)), (a 5, .inl (cZ, 40, .inl le)), (a 6, .inl (cD, 40, .inr (.inr (.inr (.inl ch))))), (a 7, .inl (cD, 40, .inr (.inr (.inr (.inl ca))))), (a 8, .inr (2, [.ref (a 9), .ref (a 10), .ref (a 11), .ref (a 12), .int tn, .int ti])), (a 9, .inl (cI, 30, .inl tk)), (a 10, .inl (cI, 30, .inl th)), (a 11, .inl (cI, 30, .inl hu)), (a 12, .inl (cI, 30, .inl od)), (a 13, .inr (0, [.ref (a 14)])), (a 14, .inl (cI, 60, .inl be))]
end
section
/-! own words: what the loops work out, by numbers of turns -/
def zb (b : Bool) : Int32 := if b = true then 1 else 0
theorem zb_eq {b : Bool} (h : zb b = 0) : b = false := by cases b with | false => rfl | true => exact absurd h (by decide)
theorem zb_ne {b : Bool} (h : ¬ zb b = 0) : b = true := by cases b with | true => rfl | false => exact absurd rfl h
theorem zb_1 {b : Bool} (h : b = true) : (1 : Int32) = zb b := by rw [h]; rfl
theorem zb_0 {b : Bool} (h : b = false) : (0 : Int32) = zb b := by rw [h]; rfl
/-- the first hit from j on, f places looked at; -1 without one -/
def zf_find (hit : Nat → Bool) : Nat → Nat → Int32
  | 0, _ => -1
  | f + 1, j => if hit j = true then nI j else zf_find hit f (j + 1)
theorem zf_hit {hit : Nat → Bool} {n i : Nat} (h : i < n) (hh : hit i = true) : zf_find hit (n - i) i = nI i := by
  rw [show n - i = (n - (i + 1)) + 1 by omega, zf_find, if_pos hh]
theorem zf_miss {hit : Nat → Bool} {n i : Nat} (h : i < n) (hh : hit i = false) : zf_find hit (n - i) i = zf_find hit (n - (i + 1)) (i + 1) := by
  rw [show n - i = (n - (i + 1)) + 1 by omega, zf_find, if_neg (by rw [hh]; decide)]
theorem zf_end {hit : Nat → Bool} {n i : Nat} (h : n ≤ i) : zf_find hit (n - i) i = -1 := by
  rw [show n - i = 0 by omega, zf_find]
/-- how many of the first n -/
def zf_cnt (p : Nat → Bool) : Nat → Nat
  | 0 => 0
  | n + 1 => if p n = true then zf_cnt p n + 1 else zf_cnt p n
theorem zf_cnt_le (p : Nat → Bool) : ∀ n, zf_cnt p n ≤ n
  | 0 => Nat.le_refl 0
  | n + 1 => by
    have h := zf_cnt_le p n
    rw [zf_cnt]
    split <;> omega
theorem zf_cnt_t {p : Nat → Bool} {n : Nat} (h : p n = true) : zf_cnt p (n + 1) = zf_cnt p n + 1 := by rw [zf_cnt, if_pos h]
theorem zf_cnt_f {p : Nat → Bool} {n : Nat} (h : p n = false) : zf_cnt p (n + 1) = zf_cnt p n := by rw [zf_cnt, if_neg (by rw [h]; decide)]
-- alarms
def al_ah (be : Nat → Int32) (o k : Nat) : Bool := decide (be o < be k) || (decide (be o = be k) && decide (o < k))
def al_p (be : Nat → Int32) (k o : Nat) : Bool := decide (¬ be o = 0) && al_ah be o k
def al_hit (be : Nat → Int32) (pl : Int32) (k : Nat) : Bool := decide (¬ be k = 0) && decide (nI (zf_cnt (al_p be k) 60) = pl)
-- lamps
def la_gt (x y : UInt64) : Bool := decide (¬ Op.cmpValue (FP.dcmp x y) CmpOp.l ≤ 0)
def la_lt (x y : UInt64) : Bool := decide (¬ 0 ≤ Op.cmpValue (FP.dcmp x y) CmpOp.g)
def la_ge9 (x : UInt64) : Bool := decide (¬ Op.cmpValue (FP.dcmp x 4621256167635550208) CmpOp.l < 0)
def la_rd (pl : Nat → Int32) (ch : Nat → UInt64) (j : Nat) : Bool := decide (pl j = 0) && la_ge9 (ch j)
def la_is (ki pl : Nat → Int32) (ch : Nat → UInt64) (k : Int32) (j : Nat) : Bool := decide (ki j = k) && la_rd pl ch j
def la_full (ki pl : Nat → Int32) (ch : Nat → UInt64) (k : Int32) : Nat → Int32
  | 0 => -1
  | j + 1 => if la_is ki pl ch k j = true ∧ (la_full ki pl ch k j = -1 ∨ la_gt (ch j) (ch (la_full ki pl ch k j).toNatClampNeg) = true) then nI j else la_full ki pl ch k j
theorem la_full_or (ki pl : Nat → Int32) (ch : Nat → UInt64) (k : Int32) : ∀ i, la_full ki pl ch k i = -1 ∨ ∃ b, b < i ∧ la_full ki pl ch k i = nI b
  | 0 => Or.inl rfl
  | i + 1 => by
    rw [la_full]
    split
    · exact Or.inr ⟨i, by omega, rfl⟩
    · rcases la_full_or ki pl ch k i with h | ⟨b, h1, h2⟩
      · exact Or.inl h
      · exact Or.inr ⟨b, by omega, h2⟩
def la_best (ki pl : Nat → Int32) (ch : Nat → UInt64) (n : Nat) : Nat → Nat → Int32
  | 0, _ => -1
  | f + 1, k => if la_full ki pl ch (nI k) n = -1 then la_best ki pl ch n f (k + 1) else la_full ki pl ch (nI k) n
def la_new (k : Int32) : UInt64 := if k = 0 then 4622945017495814144 else if k = 1 then 4625196817309499392 else 4626322717216342016
def la_weak (ki : Nat → Int32) (ca : Nat → UInt64) (j : Nat) : Bool := la_lt (ca j) (FP.dmul 4604930618986332160 (la_new (ki j)))
def la_fault (le ki : Nat → Int32) (ca : Nat → UInt64) (j : Nat) : Int32 := if le j = 0 then (if la_weak ki ca j = true then 2 else 0) else 1
def la_rem (t : Int32) : Int32 := t - t / 7 * 7
def la_loss (z : Int32) : UInt64 := if z = 0 then 4607182418800017408 else 4609434218613702656
def la_b1 (x : UInt64) (z : Int32) : UInt64 := if la_gt x (la_loss z) = true then FP.dsub x (la_loss z) else 0
def la_burn (pl le : Nat → Int32) (ch : Nat → UInt64) : Nat → Nat → UInt64
  | 0 => ch
  | j + 1 => if pl j = 1 then vf_upd (la_burn pl le ch j) j (la_b1 (la_burn pl le ch j j) (le j)) else la_burn pl le ch j
def la_l1 (x y : UInt64) : UInt64 := if la_lt (FP.dadd x 4612811918334230528) y = true then FP.dadd x 4612811918334230528 else y
def la_ldo (pl : Nat → Int32) (ca : Nat → UInt64) (f : Nat → UInt64) (u j : Nat) : Bool := decide (u < 5) && (decide (pl j = 0) && la_lt (f j) (ca j))
def la_lo (pl : Nat → Int32) (ch ca : Nat → UInt64) : Nat → (Nat → UInt64) × Nat
  | 0 => (ch, 0)
  | j + 1 => if la_ldo pl ca (la_lo pl ch ca j).1 (la_lo pl ch ca j).2 j = true then (vf_upd (la_lo pl ch ca j).1 j (la_l1 ((la_lo pl ch ca j).1 j) (ca j)), (la_lo pl ch ca j).2 + 1) else la_lo pl ch ca j
theorem la_lo_le (pl : Nat → Int32) (ch ca : Nat → UInt64) : ∀ j, (la_lo pl ch ca j).2 ≤ 5
  | 0 => by rw [la_lo]; exact Nat.zero_le _
  | j + 1 => by
    have h := la_lo_le pl ch ca j
    rw [la_lo]
    split
    · rename_i h1
      have h2 : (la_lo pl ch ca j).2 < 5 := by
        simp only [la_ldo, Bool.and_eq_true, decide_eq_true_eq] at h1
        exact h1.1
      show (la_lo pl ch ca j).2 + 1 ≤ 5
      omega
    · exact h
theorem la_lo_stop {pl : Nat → Int32} {ch ca : Nat → UInt64} {i : Nat} (h : (la_lo pl ch ca i).2 = 5) : ∀ n, la_lo pl ch ca (i + n) = la_lo pl ch ca i
  | 0 => rfl
  | n + 1 => by
    have e := la_lo_stop h n
    rw [show i + (n + 1) = (i + n) + 1 by omega, la_lo, e, if_neg]
    simp [la_ldo, h]
theorem la_lo_t {pl : Nat → Int32} {ch ca : Nat → UInt64} {j : Nat} (h : la_ldo pl ca (la_lo pl ch ca j).1 (la_lo pl ch ca j).2 j = true) : la_lo pl ch ca (j + 1) = (vf_upd (la_lo pl ch ca j).1 j (la_l1 ((la_lo pl ch ca j).1 j) (ca j)), (la_lo pl ch ca j).2 + 1) := by rw [la_lo, if_pos h]
theorem la_lo_f {pl : Nat → Int32} {ch ca : Nat → UInt64} {j : Nat} (h : la_ldo pl ca (la_lo pl ch ca j).1 (la_lo pl ch ca j).2 j = false) : la_lo pl ch ca (j + 1) = la_lo pl ch ca j := by rw [la_lo, if_neg (by rw [h]; decide)]
/-- the sum over those on the rack -/
def la_sum (pl : Nat → Int32) (f : Nat → UInt64) : Nat → UInt64
  | 0 => 0
  | j + 1 => if pl j = 0 then FP.dadd (la_sum pl f j) (f j) else la_sum pl f j
-- tallies
def ta_p (th : Nat → Int32) (j : Nat) : Bool := decide (¬ th j = -1)
def ta_ah (th od : Nat → Int32) (m o : Nat) : Bool := decide (¬ th o = -1) && decide (od o < od m)
def ta_hit (th od : Nat → Int32) (n : Nat) (pl : Int32) (m : Nat) : Bool := decide (¬ th m = -1) && decide (nI (zf_cnt (ta_ah th od m) n) = pl)
end
section
-- doubles: the value in units of the least one, comparisons, sums and differences
abbrev fz (x : UInt64) : Int := FP.Core.zval FP.Core.b64 (FP.Core.val64 x)
abbrev fz_n (x : UInt64) : Prop := FP.Core.val64 x ≠ FP.Core.Datum.nan
theorem fz_ne {x : UInt64} (h : x.toNat ≤ 9218868437227405312) : fz_n x := by
  show FP.Core.val64 x ≠ FP.Core.Datum.nan
  rw [FP.Core.ne_nan, Nat.mod_eq_of_lt (by omega)]
  exact h
theorem fz_units {x : UInt64} (h : x.toNat ≤ 9218868437227405312) : fz x = (FP.Core.unitsOf FP.Core.b64 x.toNat : Int) := by
  have h1 := FP.Core.zval_decode FP.Core.good_b64 (FP.Core.lt_full64 x) (fz_ne h)
  show FP.Core.zval FP.Core.b64 (FP.Core.decode FP.Core.b64 x.toNat) = _
  rw [h1, FP.Core.mag_toNat64, Nat.mod_eq_of_lt (by omega), FP.Core.half_b64, decide_eq_false (by omega)]
  rfl
theorem fz_le_bits {x y : UInt64} (hx : x.toNat ≤ 9218868437227405312) (hy : y.toNat ≤ 9218868437227405312) : fz x ≤ fz y ↔ x.toNat ≤ y.toNat := by
  rw [fz_units hx, fz_units hy, Int.ofNat_le]
  exact FP.Core.unitsOf_le_iff
theorem fz_lt_bits {x y : UInt64} (hx : x.toNat ≤ 9218868437227405312) (hy : y.toNat ≤ 9218868437227405312) : fz x < fz y ↔ x.toNat < y.toNat := by
  rw [fz_units hx, fz_units hy, Int.ofNat_lt]
  exact FP.Core.unitsOf_lt_iff
theorem fz_cmp3 {x y : UInt64} (hx : fz_n x) (hy : fz_n y) : (fz x < fz y ∧ FP.dcmp x y = some Ordering.lt) ∨ (fz x = fz y ∧ FP.dcmp x y = some Ordering.eq) ∨ (fz y < fz x ∧ FP.dcmp x y = some Ordering.gt) := by
  have e : FP.dcmp x y = some (compare (fz x) (fz y)) := FP.Core.order_zval FP.Core.good_b64 (FP.Core.val64_fits x) (FP.Core.val64_fits y) hx hy
  rw [e]
  generalize fz x = a
  generalize fz y = b
  rcases Int.lt_trichotomy a b with h | h | h
  · exact Or.inl ⟨h, by simp only [compare, compareOfLessAndEq, if_pos h]⟩
  · exact Or.inr (Or.inl ⟨h, by subst h; simp [compare, compareOfLessAndEq]⟩)
  · have h1 : ¬ a < b := by omega
    have h2 : ¬ a = b := by omega
    exact Or.inr (Or.inr ⟨h, by simp only [compare, compareOfLessAndEq, if_neg h1, if_neg h2]⟩)
theorem fz_gt {x y : UInt64} (hx : fz_n x) (hy : fz_n y) : la_gt x y = true ↔ fz y < fz x := by
  unfold la_gt
  rcases fz_cmp3 hx hy with ⟨h, e⟩ | ⟨h, e⟩ | ⟨h, e⟩
  · rw [e]; exact iff_of_false (by decide +kernel) (by omega)
  · rw [e]; exact iff_of_false (by decide +kernel) (by omega)
  · rw [e]; exact iff_of_true (by decide +kernel) h
theorem fz_lt {x y : UInt64} (hx : fz_n x) (hy : fz_n y) : la_lt x y = true ↔ fz x < fz y := by
  unfold la_lt
  rcases fz_cmp3 hx hy with ⟨h, e⟩ | ⟨h, e⟩ | ⟨h, e⟩
  · rw [e]; exact iff_of_true (by decide +kernel) h
  · rw [e]; exact iff_of_false (by decide +kernel) (by omega)
  · rw [e]; exact iff_of_false (by decide +kernel) (by omega)
/-- a number from +0.0 to 20.0 -/
def zn_p (x : UInt64) : Prop := x.toNat ≤ 4626322717216342016
theorem zn_le {x : UInt64} (h : zn_p x) : x.toNat ≤ 9218868437227405312 := Nat.le_trans h (by decide)
theorem zn_fin {x : UInt64} (h : zn_p x) : FP.Core.DFin x := by
  rw [FP.Core.fin_bits, Nat.mod_eq_of_lt (by unfold zn_p at h; omega)]
  unfold zn_p at h
  omega
theorem zn_of_ne {x : UInt64} (h : fz_n x) : vf_n64 x := by
  have h1 := (FP.Core.ne_nan x).mp h
  unfold vf_n64
  rw [UInt64.le_iff_toNat_le, UInt64.toNat_and]
  show x.toNat &&& (2 ^ 63 - 1) ≤ 9218868437227405312
  rw [Nat.and_two_pow_sub_one_eq_mod]
  exact h1
theorem zn_n64 {x : UInt64} (h : zn_p x) : vf_n64 x := zn_of_ne (fz_ne (zn_le h))
theorem zn_loss (z : Int32) : zn_p (la_loss z) := by
  unfold la_loss zn_p
  split <;> decide +kernel
theorem zn_new (k : Int32) : zn_p (la_new k) := by
  unfold la_new zn_p
  split
  · decide +kernel
  · split <;> decide +kernel
theorem zn_w75 (k : Int32) : vf_n64 (FP.dmul 4604930618986332160 (la_new k)) := by
  unfold la_new vf_n64
  split
  · decide +kernel
  · split <;> decide +kernel
theorem fz_sub {x v : UInt64} (hx : FP.Core.DFin x) (hv : FP.Core.DFin v) : ∃ (sg : Bool) (n : Nat) (e : Int), FP.Core.val64 (FP.dsub x v) = FP.Core.round FP.Core.b64 (.fin sg n e) ∧ FP.Core.b64.qmin ≤ e ∧ FP.Core.signed sg (FP.Core.inUnits n e FP.Core.b64.qmin) = fz x - fz v := by
  obtain ⟨s, c, q, ex⟩ := hx
  obtain ⟨t, d, r, ev⟩ := hv
  have f1 : FP.Core.fits FP.Core.b64 (.fin s c q) := by rw [← ex]; exact FP.Core.val64_fits x
  have f2 : FP.Core.fits FP.Core.b64 (.fin (!t) d r) := by
    have h := FP.Core.negate_fits (FP.Core.val64_fits v)
    rw [ev] at h
    exact h
  obtain ⟨sg, n, e, h1, h2, h3⟩ := FP.Core.sum_units f1 f2
  refine ⟨sg, n, e, ?_, h2, ?_⟩
  · have h := FP.Core.val64_dsub x v
    rw [ex, ev] at h
    rw [← h1]
    exact h
  · have h4 : FP.Core.zval FP.Core.b64 (.fin (!t) d r) = - fz v := by
      have h5 := FP.Core.zval_negate FP.Core.b64 (FP.Core.val64 v)
      rw [ev] at h5
      show FP.Core.zval FP.Core.b64 (FP.Core.negate (.fin t d r)) = - FP.Core.zval FP.Core.b64 (FP.Core.val64 v)
      rw [ev]
      exact h5
    rw [h3, h4]
    show FP.Core.zval FP.Core.b64 (.fin s c q) + _ = FP.Core.zval FP.Core.b64 (FP.Core.val64 x) - _
    rw [ex]
    omega
theorem fz_add {x v : UInt64} (hx : FP.Core.DFin x) (hv : FP.Core.DFin v) : ∃ (sg : Bool) (n : Nat) (e : Int), FP.Core.val64 (FP.dadd x v) = FP.Core.round FP.Core.b64 (.fin sg n e) ∧ FP.Core.b64.qmin ≤ e ∧ FP.Core.signed sg (FP.Core.inUnits n e FP.Core.b64.qmin) = fz x + fz v := by
  obtain ⟨s, c, q, ex⟩ := hx
  obtain ⟨t, d, r, ev⟩ := hv
  have f1 : FP.Core.fits FP.Core.b64 (.fin s c q) := by rw [← ex]; exact FP.Core.val64_fits x
  have f2 : FP.Core.fits FP.Core.b64 (.fin t d r) := by rw [← ev]; exact FP.Core.val64_fits v
  obtain ⟨sg, n, e, h1, h2, h3⟩ := FP.Core.sum_units f1 f2
  refine ⟨sg, n, e, ?_, h2, ?_⟩
  · have h := FP.Core.val64_dadd x v
    rw [ex, ev] at h
    rw [← h1]
    exact h
  · rw [h3]
    show _ = FP.Core.zval FP.Core.b64 (FP.Core.val64 x) + FP.Core.zval FP.Core.b64 (FP.Core.val64 v)
    rw [ex, ev]
theorem fz_rn {r : UInt64} {sg : Bool} {n : Nat} {e : Int} (h : FP.Core.val64 r = FP.Core.round FP.Core.b64 (.fin sg n e)) : fz_n r := by
  intro h1
  rw [h] at h1
  have h2 := FP.Core.round_nan.mp h1
  cases h2
theorem fz_r_le {r y : UInt64} {sg : Bool} {n : Nat} {e : Int} (h : FP.Core.val64 r = FP.Core.round FP.Core.b64 (.fin sg n e)) (he : FP.Core.b64.qmin ≤ e) (hy : fz_n y) (hv : FP.Core.signed sg (FP.Core.inUnits n e FP.Core.b64.qmin) ≤ fz y) : fz r ≤ fz y := by
  show FP.Core.zval FP.Core.b64 (FP.Core.val64 r) ≤ _
  rw [h]
  refine FP.Core.zval_round_le FP.Core.good_b64 (FP.Core.val64_fits y) hy (Int.le_refl _) he ?_
  rw [Int.sub_self]
  show _ ≤ _ * ((2 ^ 0 : Nat) : Int)
  rw [Nat.pow_zero, Int.natCast_one, Int.mul_one]
  exact hv
theorem fz_r_ge {r y : UInt64} {sg : Bool} {n : Nat} {e : Int} (h : FP.Core.val64 r = FP.Core.round FP.Core.b64 (.fin sg n e)) (he : FP.Core.b64.qmin ≤ e) (hy : fz_n y) (hv : fz y ≤ FP.Core.signed sg (FP.Core.inUnits n e FP.Core.b64.qmin)) : fz y ≤ fz r := by
  show _ ≤ FP.Core.zval FP.Core.b64 (FP.Core.val64 r)
  rw [h]
  refine FP.Core.zval_round_ge FP.Core.good_b64 (FP.Core.val64_fits y) hy (Int.le_refl _) he ?_
  rw [Int.sub_self]
  show _ * ((2 ^ 0 : Nat) : Int) ≤ _
  rw [Nat.pow_zero, Int.natCast_one, Int.mul_one]
  exact hv
theorem fz_pos_bits {r : UInt64} (hn : fz_n r) (h : 0 < fz r) : r.toNat ≤ 9218868437227405312 := by
  have h1 := FP.Core.zval_decode FP.Core.good_b64 (FP.Core.lt_full64 r) hn
  have h2 := (FP.Core.ne_nan r).mp hn
  have h3 : fz r = FP.Core.signed (decide (FP.Core.half FP.Core.b64 ≤ r.toNat)) (FP.Core.unitsOf FP.Core.b64 (FP.Core.mag FP.Core.b64 r.toNat)) := h1
  by_cases h4 : FP.Core.half FP.Core.b64 ≤ r.toNat
  · rw [decide_eq_true h4] at h3
    have h5 : fz r = -((FP.Core.unitsOf FP.Core.b64 (FP.Core.mag FP.Core.b64 r.toNat) : Nat) : Int) := h3
    omega
  · rw [FP.Core.half_b64] at h4
    rw [Nat.mod_eq_of_lt (by omega)] at h2
    exact h2
theorem fz_sgn_bits {r : UInt64} (hn : fz_n r) (h : FP.Core.sgn (FP.Core.val64 r) = false) : r.toNat ≤ 9218868437227405312 := by
  have h1 := FP.Core.sgn_bits hn
  rw [h] at h1
  have h2 := (FP.Core.ne_nan r).mp hn
  have h3 : ¬ 2 ^ 63 ≤ r.toNat := of_decide_eq_false h1.symm
  rw [Nat.mod_eq_of_lt (by omega)] at h2
  exact h2
theorem fz_0 : fz 0 = 0 := by
  rw [fz_units (by decide)]
  decide +kernel
theorem fz_1 : fz 1 = 1 := by
  rw [fz_units (by decide)]
  decide +kernel
theorem zn_subn {x v : UInt64} (h : zn_p x) (hv : zn_p v) : fz_n (FP.dsub x v) := by
  obtain ⟨sg, n, e, h1, -, -⟩ := fz_sub (zn_fin h) (zn_fin hv)
  exact fz_rn h1
theorem zn_sub_gt {x v : UInt64} (h : zn_p x) (hv : zn_p v) (hg : fz v < fz x) : zn_p (FP.dsub x v) ∧ 0 < fz (FP.dsub x v) := by
  obtain ⟨sg, n, e, h1, h2, h3⟩ := fz_sub (zn_fin h) (zn_fin hv)
  have hn := fz_rn h1
  have v0 : 0 ≤ fz v := by rw [fz_units (zn_le hv)]; exact Int.natCast_nonneg _
  have g1 : fz 1 ≤ fz (FP.dsub x v) := fz_r_ge h1 h2 (fz_ne (by decide)) (by rw [h3, fz_1]; omega)
  rw [fz_1] at g1
  have g2 : fz (FP.dsub x v) ≤ fz x := fz_r_le h1 h2 (fz_ne (zn_le h)) (by rw [h3]; omega)
  have g3 := fz_pos_bits hn (by omega)
  exact ⟨Nat.le_trans ((fz_le_bits g3 (zn_le h)).mp g2) h, by omega⟩
theorem zn_sub_le {x v : UInt64} (h : zn_p x) (hv : zn_p v) (hg : fz x ≤ fz v) : fz (FP.dsub x v) ≤ 0 := by
  obtain ⟨sg, n, e, h1, h2, h3⟩ := fz_sub (zn_fin h) (zn_fin hv)
  have g := fz_r_le (y := 0) h1 h2 (fz_ne (by decide)) (by rw [h3, fz_0]; omega)
  rw [fz_0] at g
  exact g
theorem zn_mul97 {x : UInt64} (h : zn_p x) : zn_p (FP.dmul x 4606912202822375178) := by
  obtain ⟨s, c, q, ex⟩ := zn_fin h
  obtain ⟨t, d, r, ev⟩ : FP.Core.DFin 4606912202822375178 := by rw [FP.Core.fin_bits]; decide
  have f1 : FP.Core.fits FP.Core.b64 (.fin s c q) := by rw [← ex]; exact FP.Core.val64_fits x
  have f2 : FP.Core.fits FP.Core.b64 (.fin t d r) := by rw [← ev]; exact FP.Core.val64_fits _
  obtain ⟨h1, h2, h3⟩ := FP.Core.product_units f1 f2
  have hx0 := zn_le h
  have s1 : s = false := by
    have g := FP.Core.sgn_bits (fz_ne hx0)
    rw [ex, decide_eq_false (by omega)] at g
    exact g
  have t1 : t = false := by
    have g := FP.Core.sgn_bits (a := 4606912202822375178) (fz_ne (by decide))
    rw [ev, decide_eq_false (by decide)] at g
    exact g
  subst s1
  subst t1
  have hr : FP.Core.val64 (FP.dmul x 4606912202822375178) = FP.Core.round FP.Core.b64 (.fin (false != false) (c * d) (q + r)) := by
    have g := FP.Core.val64_dmul x 4606912202822375178
    rw [ex, ev, h1] at g
    exact g
  have hn := fz_rn hr
  have hs : FP.Core.sgn (FP.Core.val64 (FP.dmul x 4606912202822375178)) = false := by
    rw [hr]
    exact FP.Core.sgn_roundRatio _ _ _ _ _
  have g3 := fz_sgn_bits hn hs
  have hd : FP.Core.zmag FP.Core.b64 (.fin false d r) ≤ 2 ^ 1074 := by
    rw [← ev, FP.Core.zmag_bits (fz_ne (by decide))]
    decide +kernel
  have g2 : fz (FP.dmul x 4606912202822375178) ≤ fz x := by
    show FP.Core.zval FP.Core.b64 (FP.Core.val64 (FP.dmul x 4606912202822375178)) ≤ _
    rw [hr]
    refine FP.Core.zval_round_le FP.Core.good_b64 (e0 := 2 * FP.Core.b64.qmin) (FP.Core.val64_fits x) (fz_ne hx0) (by rw [FP.Core.qmin_b64]; decide) h2 ?_
    have e1 : FP.Core.signed (false != false) (FP.Core.inUnits (c * d) (q + r) (2 * FP.Core.b64.qmin)) = ((FP.Core.zmag FP.Core.b64 (.fin false c q) * FP.Core.zmag FP.Core.b64 (.fin false d r) : Nat) : Int) := by
      rw [h3]
      rfl
    have e2 : FP.Core.zval FP.Core.b64 (FP.Core.val64 x) = ((FP.Core.zmag FP.Core.b64 (.fin false c q) : Nat) : Int) := by
      rw [ex]
      rfl
    rw [e1, e2, show (FP.Core.b64.qmin - 2 * FP.Core.b64.qmin).toNat = 1074 by rw [FP.Core.qmin_b64]; decide, ← Int.natCast_mul, Int.ofNat_le]
    exact Nat.mul_le_mul_left _ hd
  exact Nat.le_trans ((fz_le_bits g3 hx0).mp g2) h
/-- a number without sign, below the start of a block of exponents -/
def zn_K (K : Nat) (x : UInt64) : Prop := x.toNat < K * 2 ^ 52
theorem zn_K_of {x : UInt64} (h : zn_p x) : zn_K 1028 x := Nat.lt_of_le_of_lt h (by decide)
theorem zn_K_mono {K L : Nat} {x : UInt64} (h : zn_K K x) (hl : K ≤ L) : zn_K L x := Nat.lt_of_lt_of_le h (Nat.mul_le_mul_right _ hl)
theorem zn_K_le {K : Nat} {x : UInt64} (h : zn_K K x) (hK : K ≤ 2047) : x.toNat < 9218868437227405312 := Nat.lt_of_lt_of_le h (Nat.le_trans (Nat.mul_le_mul_right _ hK) (by decide))
theorem zn_K_fin {K : Nat} {x : UInt64} (h : zn_K K x) (hK : K ≤ 2047) : FP.Core.DFin x := by
  have h1 := zn_K_le h hK
  rw [FP.Core.fin_bits, Nat.mod_eq_of_lt (by omega)]
  exact h1
theorem zn_addK {K : Nat} {x y : UInt64} (h : zn_K K x) (hy : zn_K K y) (hK : K ≤ 2040) : zn_K (K + 2) (FP.dadd x y) ∧ fz_n (FP.dadd x y) := by
  have hx1 := zn_K_le h (by omega)
  have hy1 := zn_K_le hy (by omega)
  obtain ⟨sg, n, e, h1, h2, h3⟩ := fz_add (zn_K_fin h (by omega)) (zn_K_fin hy (by omega))
  have hn := fz_rn h1
  have m := FP.Core.dadd_mag (a := x) (b := y) (K := K) (by rw [Nat.mod_eq_of_lt (by omega)]; exact h) (by rw [Nat.mod_eq_of_lt (by omega)]; exact hy) (by omega)
  have x0 : 0 ≤ fz x := by rw [fz_units (by omega)]; exact Int.natCast_nonneg _
  have y0 : 0 ≤ fz y := by rw [fz_units (by omega)]; exact Int.natCast_nonneg _
  have hs : FP.Core.sgn (FP.Core.val64 (FP.dadd x y)) = false := by
    obtain ⟨s, c, q, ex⟩ := zn_K_fin h (by omega)
    obtain ⟨t, d, r, ev⟩ := zn_K_fin hy (by omega)
    have s1 : s = false := by
      have g := FP.Core.sgn_bits (fz_ne (Nat.le_of_lt hx1))
      rw [ex, decide_eq_false (by omega)] at g
      exact g
    have t1 : t = false := by
      have g := FP.Core.sgn_bits (fz_ne (Nat.le_of_lt hy1))
      rw [ev, decide_eq_false (by omega)] at g
      exact g
    subst s1
    subst t1
    have g := FP.Core.val64_dadd x y
    rw [ex, ev] at g
    have g1 : FP.Core.val64 (FP.dadd x y) = FP.Core.roundRatio FP.Core.b64 (FP.Core.sumSign false false (FP.Core.sumUnits false c q false d r (min q r))) (FP.Core.sumUnits false c q false d r (min q r)).natAbs 1 (min q r) := g
    rw [g1, FP.Core.sgn_roundRatio]
    unfold FP.Core.sumSign
    split
    · rfl
    · refine decide_eq_false ?_
      unfold FP.Core.sumUnits
      show ¬ ((FP.Core.inUnits c q (min q r) : Nat) : Int) + ((FP.Core.inUnits d r (min q r) : Nat) : Int) < 0
      omega
  have g3 := fz_sgn_bits hn hs
  refine ⟨?_, hn⟩
  have m2 : (FP.dadd x y).toNat % 2 ^ 63 < (K + 2) * 2 ^ 52 := m
  rw [Nat.mod_eq_of_lt (by omega)] at m2
  exact m2
theorem zn_add25 {x : UInt64} (h : zn_p x) : fz_n (FP.dadd x 4612811918334230528) ∧ (FP.dadd x 4612811918334230528).toNat ≤ 9218868437227405312 := by
  obtain ⟨h1, h2⟩ := zn_addK (K := 1028) (zn_K_of h) (zn_K_of (x := 4612811918334230528) (by unfold zn_p; decide)) (by decide)
  exact ⟨h2, Nat.le_of_lt (zn_K_le h1 (by decide))⟩
theorem zn_add0 {x : UInt64} (h : x.toNat ≤ 9218868437227405312) : FP.dadd x 0 = x := by
  refine FP.Core.dadd_zero (fz_ne h) (fun e => ?_)
  rw [e] at h
  exact absurd h (by decide)
theorem zn_up {f : Nat → UInt64} {k : Nat} {x : UInt64} {j : Nat} (hx : zn_p x) (h : zn_p (f j)) : zn_p (vf_upd f k x j) := by
  unfold vf_upd
  split
  · exact hx
  · exact h
theorem zn_0 : zn_p 0 := by unfold zn_p; decide
theorem zn_b1 {x : UInt64} (z : Int32) (h : zn_p x) : zn_p (la_b1 x z) := by
  unfold la_b1
  split
  · rename_i g
    exact (zn_sub_gt h (zn_loss z) ((fz_gt (fz_ne (zn_le h)) (fz_ne (zn_le (zn_loss z)))).mp g)).1
  · exact zn_0
theorem zn_sub_v {x v : UInt64} {z : Int32} (hv : la_loss z = v) (h : zn_p x) : vf_n64 (FP.dsub x v) := by
  subst hv
  exact zn_of_ne (zn_subn h (zn_loss z))
/-- what is left, told the other way -/
theorem zn_b1_m {x : UInt64} (z : Int32) (h : zn_p x) : la_b1 x z = if la_gt (FP.dsub x (la_loss z)) 0 = true then FP.dsub x (la_loss z) else 0 := by
  have hl := zn_loss z
  have n1 := fz_ne (zn_le h)
  have n2 := fz_ne (zn_le hl)
  have n3 := zn_subn h hl
  have n4 : fz_n 0 := fz_ne (by decide)
  unfold la_b1
  by_cases g : la_gt x (la_loss z) = true
  · have g1 := (zn_sub_gt h hl ((fz_gt n1 n2).mp g)).2
    rw [if_pos g, if_pos ((fz_gt n3 n4).mpr (by rw [fz_0]; exact g1))]
  · have g1 : fz x ≤ fz (la_loss z) := Int.not_lt.mp (fun q => g ((fz_gt n1 n2).mpr q))
    have g2 := zn_sub_le h hl g1
    rw [if_neg g, if_neg (fun q => by have g3 := (fz_gt n3 n4).mp q; rw [fz_0] at g3; omega)]
theorem zn_burn {pl le : Nat → Int32} {ch : Nat → UInt64} {n : Nat} (h : ∀ i, i < n → zn_p (ch i)) : ∀ j i, i < n → zn_p (la_burn pl le ch j i)
  | 0, i, hi => h i hi
  | j + 1, i, hi => by
    rw [la_burn]
    split
    · unfold vf_upd
      split
      · rename_i _ e
        subst e
        exact zn_b1 _ (zn_burn h i i hi)
      · exact zn_burn h j i hi
    · exact zn_burn h j i hi
theorem zn_l1 {x y : UInt64} (h : zn_p x) (hy : zn_p y) : zn_p (la_l1 x y) := by
  unfold la_l1
  split
  · rename_i g
    obtain ⟨g1, g2⟩ := zn_add25 h
    have g3 := (fz_lt g1 (fz_ne (zn_le hy))).mp g
    exact Nat.le_trans (Nat.le_of_lt ((fz_lt_bits g2 (zn_le hy)).mp g3)) hy
  · exact hy
theorem zn_lo {pl : Nat → Int32} {ch ca : Nat → UInt64} {n : Nat} (h : ∀ i, i < n → zn_p (ch i)) (hc : ∀ i, i < n → zn_p (ca i)) : ∀ j i, i < n → zn_p ((la_lo pl ch ca j).1 i)
  | 0, i, hi => h i hi
  | j + 1, i, hi => by
    rw [la_lo]
    split
    · show zn_p (vf_upd (la_lo pl ch ca j).1 j (la_l1 ((la_lo pl ch ca j).1 j) (ca j)) i)
      unfold vf_upd
      split
      · rename_i _ e
        subst e
        exact zn_l1 (zn_lo h hc i i hi) (hc i hi)
      · exact zn_lo h hc j i hi
    · exact zn_lo h hc j i hi
theorem zn_sum {pl : Nat → Int32} {f : Nat → UInt64} {n : Nat} (h : ∀ i, i < n → zn_p (f i)) (hn : n ≤ 40) : ∀ j, j ≤ n → zn_K (1028 + 2 * j) (la_sum pl f j)
  | 0, _ => by rw [la_sum]; exact zn_K_of zn_0
  | j + 1, hj => by
    have ih := zn_sum (pl := pl) h hn j (by omega)
    rw [la_sum]
    split
    · exact (zn_addK ih (zn_K_mono (zn_K_of (h j (by omega))) (by omega)) (by omega)).1
    · exact zn_K_mono ih (by omega)
theorem zn_sum_n {pl : Nat → Int32} {f : Nat → UInt64} {n : Nat} (h : ∀ i, i < n → zn_p (f i)) (hn : n ≤ 40) {j : Nat} (hj : j < n) : vf_n64 (FP.dadd (la_sum pl f j) (f j)) :=
  zn_of_ne (zn_addK (K := 1028 + 2 * j) (zn_sum h hn j (by omega)) (zn_K_mono (zn_K_of (h j hj)) (by omega)) (by omega)).2
end
section
theorem zq_add0 (x : Int32) : x + 0 = x := Int32.add_zero x
theorem zq_vus {f : Nat → UInt64} {k : Nat} {x : UInt64} : vf_upd f k x k = x := by unfold vf_upd; rw [if_pos rfl]
theorem zq_le0 {a : Nat} (h : nI a ≤ 0) (ha : a < 2 ^ 31) : a = 0 := by
  have h1 : nI a ≤ nI 0 := h
  have h2 := (nI_leI ha (by decide)).mp h1
  omega
theorem zq_nle0 {a : Nat} (h : ¬ nI a ≤ 0) (ha : a < 2 ^ 31) : 0 < a := by
  rcases Nat.eq_zero_or_pos a with e | e
  · subst e
    exact absurd (show nI 0 ≤ 0 by decide +kernel) h
  · exact e
theorem zq_dec5 {u : Nat} (hu : u < 5) : nI (5 - u) + Int32.ofInt (-1) = nI (5 - (u + 1)) := by
  rw [show Int32.ofInt (-1) = (-1 : Int32) from rfl, sb_m1 (by omega), Nat.sub_sub]
theorem zb_nar (b : Bool) : narrow .boolean (.int (zb b)) = .int (zb b) := by cases b <;> rfl
theorem zq_nI1 : nI 1 = 1 := rfl
section ZD
variable {p : Program} {l : Launch} {e : Env} {R : Room} {s : State} {m : MethodId} {args : Array Value} {below : List Frame} {meth : Method} {c : Code} {H : Heap} {locs : List Loc} {cells slots : Nat} {Q : State → Prop} {cc : ByteArray} {pc : Nat} {ls : Array Slot} {rest : List Value}
theorem zq_dconst0 (hexec : p.tables.exec = Jvm.exec) (hb : c.code = cc) (hdg : decode cc pc = .ok (.dconst 0, 1)) (k : W p l e R s m args below meth c H locs cells slots Q (F0 m (pc + 1) ls (.double 0 :: rest))) : W p l e R s m args below meth c H locs cells slots Q (F0 m pc ls rest) := lv_dconst0 hexec hb hdg k
theorem zq_dconst1 (hexec : p.tables.exec = Jvm.exec) (hb : c.code = cc) (hdg : decode cc pc = .ok (.dconst 1, 1)) (k : W p l e R s m args below meth c H locs cells slots Q (F0 m (pc + 1) ls (.double 4607182418800017408 :: rest))) : W p l e R s m args below meth c H locs cells slots Q (F0 m pc ls rest) := lv_dconst1 hexec hb hdg k
end ZD
end
section
-- own words for the reference's loops
def in_b (v lo hi : Int32) : Bool := decide (¬ v < lo) && decide (¬ hi < v)
theorem in_b_ok {j n : Nat} (h : j < n) (hn : n < 2 ^ 31) : in_b (nI j) 0 (nI n - 1) = true := by
  obtain ⟨k, rfl⟩ : ∃ k, n = k + 1 := ⟨n - 1, by omega⟩
  rw [nI_pred]
  unfold in_b
  rw [Bool.and_eq_true]
  exact ⟨decide_eq_true (nI_pos (by omega)), decide_eq_true (nI_nlt (by omega) (by omega))⟩
theorem in_b_of {v : Int32} {n : Nat} (hn : n < 2 ^ 31) (h : in_b v 0 (nI n - 1) = true) : ∃ j, j < n ∧ v = nI j := by
  unfold in_b at h
  rw [Bool.and_eq_true] at h
  have h1 := of_decide_eq_true h.1
  have h2 := of_decide_eq_true h.2
  obtain ⟨j, hj, rfl⟩ := nI_of h1
  rcases Nat.eq_zero_or_pos n with e | e
  · subst e
    have h3 : nI 0 - 1 < nI j := by
      have h4 : (nI 0 - 1) < 0 := by decide +kernel
      have h5 : (0 : Int32) ≤ nI j := nI_pos' hj
      exact Int32.lt_of_lt_of_le h4 h5
    exact absurd h3 h2
  · obtain ⟨k, rfl⟩ : ∃ k, n = k + 1 := ⟨n - 1, by omega⟩
    rw [nI_pred] at h2
    refine ⟨j, ?_, rfl⟩
    have h3 : ¬ k < j := fun q => h2 ((nI_ltI (by omega) hj).mpr q)
    omega
theorem in_b_3 {v : Int32} (h : in_b v 0 2 = true) : ∃ j, j < 3 ∧ v = nI j := in_b_of (n := 3) (by decide) h
theorem nI_nm1 {j : Nat} (h : j < 2 ^ 31) : ¬ nI j = -1 := fun e => by
  have h1 := nI_pos h
  rw [e] at h1
  exact absurd (show (-1 : Int32) < 0 by decide +kernel) h1
/-- the best, class by class, as the reference goes on -/
def la_scan (ki pl : Nat → Int32) (ch : Nat → UInt64) (n w : Nat) : Nat → Int32
  | 0 => -1
  | t + 1 => if la_scan ki pl ch n w t = -1 then la_full ki pl ch (nI (w + t)) n else la_scan ki pl ch n w t
theorem la_scan_stop {ki pl : Nat → Int32} {ch : Nat → UInt64} {n w t : Nat} (h : ¬ la_scan ki pl ch n w t = -1) : ∀ k, la_scan ki pl ch n w (t + k) = la_scan ki pl ch n w t
  | 0 => rfl
  | k + 1 => by
    rw [show t + (k + 1) = (t + k) + 1 by omega, la_scan, la_scan_stop h k, if_neg h]
theorem la_scan_best {ki pl : Nat → Int32} {ch : Nat → UInt64} {n w : Nat} : ∀ (f t : Nat), la_scan ki pl ch n w t = -1 → la_scan ki pl ch n w (t + f) = la_best ki pl ch n f (w + t)
  | 0, t, h => h
  | f + 1, t, h => by
    have e : la_scan ki pl ch n w (t + 1) = la_full ki pl ch (nI (w + t)) n := by rw [la_scan, if_pos h]
    rw [la_best]
    by_cases g : la_full ki pl ch (nI (w + t)) n = -1
    · rw [if_pos g, show t + (f + 1) = (t + 1) + f by omega, la_scan_best f (t + 1) (e.trans g)]
      rfl
    · rw [if_neg g, show t + (f + 1) = (t + 1) + f by omega, la_scan_stop (by rw [e]; exact g), e]
theorem la_scan_0 {ki pl : Nat → Int32} {ch : Nat → UInt64} {n w f : Nat} : la_scan ki pl ch n w f = la_best ki pl ch n f w := by
  have h := la_scan_best (ki := ki) (pl := pl) (ch := ch) (n := n) (w := w) f 0 rfl
  rw [Nat.zero_add] at h
  exact h
/-- a row without those that are not kept, its length so far -/
def cp_k (keep : Int32 → Bool) (f : Nat → Int32) : Nat → (Nat → Int32) × Nat
  | 0 => (f, 0)
  | i + 1 => (upd (cp_k keep f i).1 (cp_k keep f i).2 ((cp_k keep f i).1 i), if keep (upd (cp_k keep f i).1 (cp_k keep f i).2 ((cp_k keep f i).1 i) i) = true then (cp_k keep f i).2 + 1 else (cp_k keep f i).2)
theorem cp_le (keep : Int32 → Bool) (f : Nat → Int32) : ∀ i, (cp_k keep f i).2 ≤ i
  | 0 => Nat.le_refl 0
  | i + 1 => by
    have h := cp_le keep f i
    rw [cp_k]
    dsimp only
    split
    · exact Nat.succ_le_succ h
    · exact Nat.le_succ_of_le h
def cp_1 (m : Nat) (v : Int32) : Bool := decide (¬ v = nI m)
def cp_2 (m : Nat) (v : Int32) : Bool := decide (¬ v / 2 = nI m)
def al_has (al : Nat → Int32) (x : Int32) : Nat → Bool
  | 0 => false
  | i + 1 => al_has al x i || decide (al i = x)
def bg_n (B h : Bool) : Nat := if B = true ∧ h = false then 1 else 0
def bg_a (B h : Bool) (al : Nat → Int32) (n : Nat) (x : Int32) : Nat → Int32 := if B = true ∧ h = false then upd al n x else al
def la_dk (x : UInt64) : Bool := decide (Op.cmpValue (FP.dcmp x 0) CmpOp.l = 0)
def la_lt9 (h s : Int32) : Bool := decide (¬ h - s ≤ 9)
/-- the alarms that begin in an hour, miner by miner: the row, its length, how many began -/
def gb_L (la si : Nat → Int32) (h : Int32) (p : (Nat → Int32) × Nat × Nat) (m : Nat) : (Nat → Int32) × Nat × Nat :=
  (bg_a (la_lt9 h (si m)) (al_has p.1 (nI (2 * m)) p.2.1) p.1 p.2.1 (nI (2 * m)), p.2.1 + bg_n (la_lt9 h (si m)) (al_has p.1 (nI (2 * m)) p.2.1), p.2.2 + bg_n (la_lt9 h (si m)) (al_has p.1 (nI (2 * m)) p.2.1))
def gb_D (la : Nat → Int32) (ch : Nat → UInt64) (p : (Nat → Int32) × Nat × Nat) (m : Nat) : (Nat → Int32) × Nat × Nat :=
  (bg_a (la_dk (ch (la m).toNatClampNeg)) (al_has p.1 (nI (2 * m + 1)) p.2.1) p.1 p.2.1 (nI (2 * m + 1)), p.2.1 + bg_n (la_dk (ch (la m).toNatClampNeg)) (al_has p.1 (nI (2 * m + 1)) p.2.1), p.2.2 + bg_n (la_dk (ch (la m).toNatClampNeg)) (al_has p.1 (nI (2 * m + 1)) p.2.1))
def gb_k (la si : Nat → Int32) (ch : Nat → UInt64) (h : Int32) (al : Nat → Int32) (n : Nat) : Nat → (Nat → Int32) × Nat × Nat
  | 0 => (al, n, 0)
  | m + 1 => if la m = -1 then gb_k la si ch h al n m else gb_D la ch (gb_L la si h (gb_k la si ch h al n m) m) m
/-- the spare lamps, board place by board place -/
def sp_b (ki la wa bo : Nat → Int32) (i : Nat) : Bool := decide (¬ ki (la (bo i).toNatClampNeg).toNatClampNeg ≤ wa (bo i).toNatClampNeg)
/-- the reference's sums -/
def la_smm (pl : Nat → Int32) (f : Nat → UInt64) : Nat → UInt64
  | 0 => 0
  | j + 1 => FP.dadd (la_smm pl f j) (if pl j = 0 then f j else 0)
theorem la_smm_eq {pl : Nat → Int32} {f : Nat → UInt64} {n : Nat} (h : ∀ i, i < n → zn_p (f i)) (hn : n ≤ 40) : ∀ j, j ≤ n → la_smm pl f j = la_sum pl f j
  | 0, _ => rfl
  | j + 1, hj => by
    rw [la_smm, la_sum, la_smm_eq h hn j (by omega)]
    by_cases g : pl j = 0
    · rw [if_pos g, if_pos g]
    · rw [if_neg g, if_neg g]
      exact zn_add0 (Nat.le_of_lt (zn_K_le (zn_sum h hn j (by omega)) (by omega)))
def la_rc (c k : UInt64) : Int32 := if la_gt k 0 = true then FP.d2i (FP.dmul (FP.ddiv c k) 4636737291354636288) else 0
theorem zn_divn {c k : UInt64} {K : Nat} (hc : zn_K K c) (hk : zn_K K k) (hK : K ≤ 2047) (h : ¬ k.toNat = 0) : fz_n (FP.ddiv c k) ∧ fz_n (FP.dmul (FP.ddiv c k) 4636737291354636288) := by
  have h1 := zn_K_le hc hK
  have h2 := zn_K_le hk hK
  have n1 : FP.Core.dIsNaN (FP.Core.ddiv c k) = false := FP.Core.ddiv_out ((FP.Core.notNaN_iff c).mpr (fz_ne (Nat.le_of_lt h1))) (zn_K_fin hk hK) (by
    rw [FP.Core.zero_bits2, Nat.mod_eq_of_lt (by omega)]
    exact h)
  have n2 : FP.Core.dIsNaN (FP.Core.dmul (FP.Core.ddiv c k) 4636737291354636288) = false := FP.Core.dmul_out' n1 (by rw [FP.Core.fin_bits]; decide) (by rw [FP.Core.zero_bits2]; decide)
  exact ⟨(FP.Core.notNaN_iff _).mp n1, (FP.Core.notNaN_iff _).mp n2⟩
theorem fz_gt0 {k : UInt64} (h : k.toNat ≤ 9218868437227405312) : la_gt k 0 = true ↔ ¬ k.toNat = 0 := by
  rw [fz_gt (fz_ne h) (fz_ne (by decide)), fz_lt_bits (by decide) h]
  show 0 < k.toNat ↔ _
  omega
theorem fz_eq0 {k : UInt64} (h : k.toNat ≤ 9218868437227405312) : la_dk k = true ↔ k.toNat = 0 := by
  unfold la_dk
  have n1 := fz_ne h
  have n2 : fz_n 0 := fz_ne (by decide)
  have e1 := fz_lt_bits (x := k) (y := 0) h (by decide)
  have e2 := fz_lt_bits (x := 0) (y := k) (by decide) h
  have e3 : (0 : UInt64).toNat = 0 := rfl
  rcases fz_cmp3 n1 n2 with ⟨g, e⟩ | ⟨g, e⟩ | ⟨g, e⟩
  · have := e1.mp g; omega
  · rw [e]
    refine iff_of_true (by decide +kernel) ?_
    refine Nat.eq_zero_of_not_pos (fun q => ?_)
    have := e2.mpr (by omega)
    omega
  · rw [e]
    refine iff_of_false (by decide +kernel) ?_
    have := e2.mp g
    omega
theorem zn_smm {pl : Nat → Int32} {f : Nat → UInt64} {n : Nat} (h : ∀ i, i < n → zn_p (f i)) (hn : n ≤ 40) {j : Nat} (hj : j < n) : vf_n64 (FP.dadd (la_smm pl f j) (f j)) ∧ vf_n64 (FP.dadd (la_smm pl f j) 0) := by
  rw [la_smm_eq h hn j (by omega)]
  refine ⟨zn_sum_n h hn hj, ?_⟩
  have h1 := zn_K_le (zn_sum (pl := pl) h hn j (by omega)) (by omega)
  rw [zn_add0 (Nat.le_of_lt h1)]
  exact zn_of_ne (fz_ne (Nat.le_of_lt h1))
/-- the charges an hour later -/
def la_hr (pl le : Nat → Int32) (ch ca : Nat → UInt64) (n : Nat) : Nat → UInt64 := (la_lo pl (la_burn pl le ch n) ca n).1
/-- there is room for the alarms that begin -/
def gb_ok (la si : Nat → Int32) (ch : Nat → UInt64) (h : Int32) (al : Nat → Int32) (n M : Nat) : Prop := ∀ mi, mi < M → ¬ la mi = -1 →
  (la_lt9 h (si mi) = true → al_has (gb_k la si ch h al n mi).1 (nI (2 * mi)) (gb_k la si ch h al n mi).2.1 = false → (gb_k la si ch h al n mi).2.1 < 60) ∧
  (la_dk (ch (la mi).toNatClampNeg) = true → al_has (gb_L la si h (gb_k la si ch h al n mi) mi).1 (nI (2 * mi + 1)) (gb_L la si h (gb_k la si ch h al n mi) mi).2.1 = false → (gb_L la si h (gb_k la si ch h al n mi) mi).2.1 < 60) ∧
  (gb_k la si ch h al n mi).2.1 ≤ 60 ∧ (gb_L la si h (gb_k la si ch h al n mi) mi).2.1 ≤ 60
end
section
/-! own rows: what a method that throws needs beside its words, and its contract -/
abbrev zx_A : String := "java/lang/IllegalArgumentException"
abbrev zx_S : String := "java/lang/IllegalStateException"
abbrev zx_I : String := "java/lang/IndexOutOfBoundsException"
abbrev zx_N : List String := ["java/lang/RuntimeException", "java/lang/Exception"]
def zx_R (k : Nat) (tx : String) (U : State) : Prop := ∃ sa, vk_R RX3 k tx sa U
abbrev zx_d1 : Cond := .declares (Bundle.initS "java/lang/RuntimeException")
abbrev zx_d2 : Cond := .declares (Bundle.initS "java/lang/Exception")
abbrev zx_d3 : Cond := .declares (Bundle.initS Bundle.tN)
def zx_D (U : State) : Prop := va_Nw zx_d1 U ∧ va_Nw zx_d2 U ∧ va_Nw zx_d3 U
theorem zx_D.warm {s U : State} (hW : s.WarmedH U.vm) (h : zx_D s) : zx_D U := ⟨va_Nw.warmD hW h.1, va_Nw.warmD hW h.2.1, va_Nw.warmD hW h.2.2⟩
theorem zx_D.same {s U : State} (hv : U.vm = s.vm) (h : zx_D s) : zx_D U := ⟨va_Nw.same rfl hv.symm h.1, va_Nw.same rfl hv.symm h.2.1, va_Nw.same rfl hv.symm h.2.2⟩
def zx_C (U : State) : Prop := (va_Nw (.castable zx_A zx_A) U ∧ va_Nw (.castable zx_S zx_S) U ∧ va_Nw (.castable zx_I zx_I) U) ∧ (va_Nc zx_S zx_A U ∧ va_Nc zx_S zx_I U)
def zx_E (U : State) : Prop := (zx_C U ∧ zx_D U) ∧ zx_R 147 "there is no such class" U ∧ zx_R 44 "there are 40 lamps" U ∧ zx_R 54 "there are 30 miners" U ∧ zx_R 151 "there is no such miner" U ∧ zx_R 65 "the tally is on the board" U ∧ zx_R 73 "there is no lamp" U ∧ zx_R 83 "the tally is not on the board" U ∧ zx_R 154 "there is no such lamp" U ∧ zx_R 103 "the lamp is not on the rack" U ∧ zx_R 108 "the lamp is not set aside" U ∧ zx_R 115 "hours must be 1 to 100" U
theorem zx_R.warm {k : Nat} {tx : String} {s U : State} (hW : s.WarmedH U.vm) (h : zx_R k tx s) : zx_R k tx U := by
  obtain ⟨sa, h⟩ := h
  exact ⟨sa, vk_R.warm hW h⟩
theorem zx_C.warm {s U : State} (hW : s.WarmedH U.vm) (h : zx_C s) : zx_C U :=
  ⟨⟨va_Nw.warmC hW h.1.1, va_Nw.warmC hW h.1.2.1, va_Nw.warmC hW h.1.2.2⟩, va_Nc.moved hW.alike h.2.1, va_Nc.moved hW.alike h.2.2⟩
theorem zx_E.warm {s U : State} (hW : s.WarmedH U.vm) (h : zx_E s) : zx_E U := by
  obtain ⟨h0, h1, h2, h3, h4, h5, h6, h7, h8, h9, h10, h11⟩ := h
  exact ⟨⟨h0.1.warm hW, h0.2.warm hW⟩, h1.warm hW, h2.warm hW, h3.warm hW, h4.warm hW, h5.warm hW, h6.warm hW, h7.warm hW, h8.warm hW, h9.warm hW, h10.warm hW, h11.warm hW⟩
theorem zx_C.same {s U : State} (hv : U.vm = s.vm) (h : zx_C s) : zx_C U := by
  have ha : s.vm.Alike U.vm := by rw [hv]; exact Vm.Alike.refl s.vm
  exact ⟨⟨va_Nw.same rfl hv.symm h.1.1, va_Nw.same rfl hv.symm h.1.2.1, va_Nw.same rfl hv.symm h.1.2.2⟩, va_Nc.moved ha h.2.1, va_Nc.moved ha h.2.2⟩
theorem zx_R.same {k : Nat} {tx : String} {s U : State} (hv : U.vm = s.vm) (h : zx_R k tx s) : zx_R k tx U := by
  obtain ⟨sa, h⟩ := h
  exact ⟨sa, vk_R.same hv h⟩
theorem zx_E.same {s U : State} (hv : U.vm = s.vm) (h : zx_E s) : zx_E U := by
  obtain ⟨h0, h1, h2, h3, h4, h5, h6, h7, h8, h9, h10, h11⟩ := h
  exact ⟨⟨h0.1.same hv, h0.2.same hv⟩, h1.same hv, h2.same hv, h3.same hv, h4.same hv, h5.same hv, h6.same hv, h7.same hv, h8.same hv, h9.same hv, h10.same hv, h11.same hv⟩
/-- the two statics of Throwable, in H -/
def zx_H (A : Nat → Prop) (U : State) (H : Heap) : Prop := vx_Zq Bundle.tN "UNASSIGNED_STACK" Bundle.steD A U H ∧ vx_Zq Bundle.tN "SUPPRESSED_SENTINEL" Bundle.listD A U H
theorem zx_H.moved {A : Nat → Prop} {u U : State} {H : Heap} (hvm : u.vm.Alike U.vm) (h : zx_H A u H) : zx_H A U H := ⟨vx_Zq.moved hvm h.1, vx_Zq.moved hvm h.2⟩
theorem zx_H.kept {A : Nat → Prop} {U : State} {H H1 : Heap} (h : zx_H A U H) (hq : ∀ a : Nat, a < H.size → ¬ A a → H1[a]? = H[a]?) : zx_H A U H1 := ⟨vx_Zq.kept h.1 hq, vx_Zq.kept h.2 hq⟩
theorem zx_H.narrow {A B : Nat → Prop} {U : State} {H : Heap} (h : zx_H A U H) (hAB : ∀ q, B q → A q) : zx_H B U H := ⟨vx_Zq.narrow h.1 hAB, vx_Zq.narrow h.2 hAB⟩
def zx_Pre (D : va_G) (ty : List (ClassId × FieldType)) (ws : va_W) (sz : Nat) : State → Prop := fun U => zq_Pre D ty ws sz U ∧ zx_H (va_A ws sz) U U.heap ∧ zx_E U
theorem zx_blind {as : List Value} {D : va_G} {ty : List (ClassId × FieldType)} {ws : va_W} {sz : Nat} : FrameBlind (va_Pc as (zx_Pre D ty ws sz)) :=
  fun a U g mk q => by
    obtain ⟨q0, ⟨q1, qP, qK, qD⟩, qH, qE⟩ := q
    exact ⟨q0, ⟨q1, qP, va_K.moved (u := U) (U := U.calling g mk a) (Vm.Alike.refl U.vm) qK, qD⟩, zx_H.moved (u := U) (U := U.calling g mk a) (Vm.Alike.refl U.vm) qH, zx_E.same (s := U) (U := U.calling g mk a) rfl qE⟩
abbrev zx_X (D : va_G) (ty : List (ClassId × FieldType)) (E : String) (ws : va_W) (A : Nat → Prop) (sz : Nat) : String → State → State → Prop := vx_X (fun (_ : Unit) => True) (fun (E1 : String) (_ : Unit) (t : State) => E1 = E ∧ zq_B D ty A ws () t ∧ sz + 1 ≤ t.heap.size) A
abbrev zx_Mv (l : Launch) (y : MethodName) (wsy : List Cond) (rm : Room) (D : va_G) (ty : List (ClassId × FieldType)) (as : List Value) (w0 : va_W) (E : String) (sz : Nat) : Prop :=
  vx_Met l y wsy rm (va_Pc as (zx_Pre D ty w0 sz)) (va_Qv (fun (_ : Unit) => False) (fun _ _ => True) (fun _ => False)) (zx_X D ty E w0 (va_A w0 sz) sz) 1 6 (va_A w0 sz)
abbrev zx_Mi (l : Launch) (y : MethodName) (wsy : List Cond) (rm : Room) (D : va_G) (ty : List (ClassId × FieldType)) (as : List Value) (w0 : va_W) (E : String) (sz : Nat) : Prop :=
  vx_Met l y wsy rm (va_Pc as (zx_Pre D ty w0 sz)) (va_Qi (fun (_ : Int32) (_ : Unit) => False) (fun _ _ => True) (fun _ => False)) (zx_X D ty E w0 (va_A w0 sz) sz) 1 6 (va_A w0 sz)
abbrev zx_Md (l : Launch) (y : MethodName) (wsy : List Cond) (rm : Room) (D : va_G) (ty : List (ClassId × FieldType)) (as : List Value) (w0 : va_W) (E : String) (sz : Nat) : Prop :=
  vx_Met l y wsy rm (va_Pc as (zx_Pre D ty w0 sz)) (va_Qd (fun (_ : UInt64) (_ : Unit) => False) (fun _ _ => True) (fun _ => False)) (zx_X D ty E w0 (va_A w0 sz) sz) 1 6 (va_A w0 sz)
theorem zx_hatA {args : Array Value} {s : State} (h1 : ∀ w ∈ (vx_atS RX3 117 zx_A zx_N).filter goodWord, w.before args s = true) (hE : zx_E s) : ∀ w ∈ vx_atS RX3 117 zx_A zx_N, w.before args s = true := vx_hat (B := [.castable zx_A zx_A, zx_d1, zx_d2, zx_d3]) h1 (by decide +kernel) (vx_c (va_Nw.use rfl hE.1.1.1.1) (vx_c (va_Nw.use rfl hE.1.2.1) (vx_c (va_Nw.use rfl hE.1.2.2.1) (vx_c (va_Nw.use rfl hE.1.2.2.2) vx_n))))
theorem zx_hatS {args : Array Value} {s : State} (h1 : ∀ w ∈ (vx_atS RX3 46 zx_S zx_N).filter goodWord, w.before args s = true) (hE : zx_E s) : ∀ w ∈ vx_atS RX3 46 zx_S zx_N, w.before args s = true := vx_hat (B := [.castable zx_S zx_S, zx_d1, zx_d2, zx_d3]) h1 (by decide +kernel) (vx_c (va_Nw.use rfl hE.1.1.1.2.1) (vx_c (va_Nw.use rfl hE.1.2.1) (vx_c (va_Nw.use rfl hE.1.2.2.1) (vx_c (va_Nw.use rfl hE.1.2.2.2) vx_n))))
theorem zx_hatI {args : Array Value} {s : State} (h1 : ∀ w ∈ (vx_atS RX3 153 zx_I zx_N).filter goodWord, w.before args s = true) (hE : zx_E s) : ∀ w ∈ vx_atS RX3 153 zx_I zx_N, w.before args s = true := vx_hat (B := [.castable zx_I zx_I, zx_d1, zx_d2, zx_d3]) h1 (by decide +kernel) (vx_c (va_Nw.use rfl hE.1.1.1.2.2) (vx_c (va_Nw.use rfl hE.1.2.1) (vx_c (va_Nw.use rfl hE.1.2.2.1) (vx_c (va_Nw.use rfl hE.1.2.2.2) vx_n))))
theorem zx_goodA : ∀ w ∈ Cond.classLink RX3 113 zx_A :: Cond.initialized zx_A :: vx_atS RX3 117 zx_A zx_N, vx_ot w = true := by decide +kernel
theorem zx_goodS : ∀ w ∈ Cond.classLink RX3 42 zx_S :: Cond.initialized zx_S :: vx_atS RX3 46 zx_S zx_N, vx_ot w = true := by decide +kernel
theorem zx_goodI : ∀ w ∈ Cond.classLink RX3 149 zx_I :: Cond.initialized zx_I :: vx_atS RX3 153 zx_I zx_N, vx_ot w = true := by decide +kernel
section ZX
variable {p : Program} {l : Launch} {e : Env} {R : Room} {s : State} {m : MethodId} {args : Array Value} {below : List Frame} {meth : Method} {c : Code} {H : Heap} {locs : List Loc} {cells slots : Nat} {cc : ByteArray} {pc : Nat} {ls : Array Slot} {rest st0 : List Value}
variable {D : va_G} {ty : List (ClassId × FieldType)} {A : Nat → Prop} {H0 : Heap} {ws wc wr ws' : va_W} {y : MethodName} {bytes : ByteArray} {maxL nL n index : Nat} {ret : Option FieldType} {wsy Ts : List Cond} {rm : Room} {own C E : String} {b ci N : Nat} {T : u_T} {fs As : List Value}
/-- thrown here: the world stands as it stood -/
theorem zx_thrown (hP : va_P D vwCl ws H) (hK : va_K D vwCl ty s) (hD : va_D A ws) (hS : va_S A s.heap H locs) : ∀ t : State, s.vm.Alike t.vm → H.size < t.heap.size → (∀ q : Nat, q < H.size → t.heap[q]? = H[q]?) → zx_X D ty E ws A s.heap.size E s t :=
  fun t ha hz hq => ⟨(), trivial, ⟨rfl, ⟨hP.kept (fun k q hk => hq q.1 (vx_lt hP hk)), va_K.moved ha hK, hD⟩, Nat.lt_of_le_of_lt hS.1 hz⟩, Nat.le_trans hS.1 (Nat.le_of_lt hz), fun q h1 h2 => (hq q (Nat.lt_of_lt_of_le h1 hS.1)).trans (hS.2.1 q h1 h2)⟩
theorem zx_went (hP : va_P D vwCl ws H) (hK : va_K D vwCl ty s) (hD : va_D A ws) (hS : va_S A s.heap H locs) (hG : s.heap.size + 1 ≤ H.size) : ∀ t : State, t.heap = H → s.vm.Alike t.vm → zx_X D ty E ws A s.heap.size E s t :=
  fun t ht ha => ⟨(), trivial, ⟨rfl, ⟨by rw [ht]; exact hP, va_K.moved ha hK, hD⟩, by rw [ht]; exact hG⟩, hS.F ht⟩
theorem zx_pre (hK : va_K D vwCl ty s) (hP : va_P D vwCl ws H) (hD : va_D A ws) (hS : va_S A H0 H locs) (hA : ∀ q, H0.size ≤ q → A q) (hH : zx_H A s H) (hE : zx_E s) (isC : List Nat) (hC : isC.map (fun i => ws[i]?) = wc.map some) (hnC : va_nd isC = true) : ∀ U : State, U.heap = H → s.WarmedH U.vm → va_Pc As (zx_Pre D ty wc H.size) As.toArray U :=
  fun U hU hW => ⟨rfl, (zq_pre (As := As) hK hP hD isC hC hnC U hU hW).2, by rw [hU]; exact (hH.moved hW.alike).narrow (va_free hD hS hA isC hC), hE.warm hW⟩
/-- the callee throws: here q is thrown over this frame, the world as it stood -/
theorem zx_cVv {Q : State → Prop} (S : CallFix p m c cc nL s args Ts own) (hM : zx_Mv l y wsy rm D ty (.ref b :: As) wc E H.size) (cw : CallW R s args own C index y bytes maxL ret wsy rm 1 6 n)
    (hK : va_K D vwCl ty s) (hP : va_P D vwCl ws H) (hD : va_D A ws) (hS : va_S A H0 H locs) (hA : ∀ q, H0.size ≤ q → A q) (hH : zx_H A s H) (hE : zx_E s) (isC isR pm : List Nat) (hC : isC.map (fun i => ws[i]?) = wc.map some) (hnC : va_nd isC = true) (hR : isR.map (fun i => ws[i]?) = wr.map some) (hn : va_nd isR = true) (hdis : ∀ i ∈ isR, i ∉ isC)
    (hpm : pm.map (fun i => (wr ++ wc)[i]?) = ws.map some) (hnp : va_nd pm = true) (hc : vwCl[ci]? = some (C, T, N)) (q0 : Nat) (he : wc[q0]? = some (b, .inr (ci, fs))) (hln : As.length = n) (hsz : ls.size = nL) (hst : st0 = As.reverse ++ .ref b :: rest) (hW : (rest.map fun v => v.category).sum ≤ 8) (hdg : decode cc pc = .ok (.invokevirtual index, 3)) (hcs : cells + 1 ≤ R.cells ∧ slots + 6 ≤ R.slots)
    (kx : ∀ (H1 : Heap) (locs1 : List Loc) (q9 : Addr) (ce : Cell), va_P D vwCl ws H1 → va_D A ws → va_S A H0 H1 locs1 → H1[q9]? = some ce → ce.vm = .none → s.vm.findClass E = some ce.cls → H0.size + 1 ≤ H1.size → vx_W p l e R s m args below meth c H1 locs1 (cells + 1) (slots + 6) Q (F0 m pc ls rest) q9) : W p l e R s m args below meth c H locs cells slots Q (F0 m pc ls st0) := by
  have hFc := va_free hD hS hA isC hC
  refine vx_callv (vx_runV (As := As) (rest := rest) S hM cw ⟨zx_blind, va_recv hK (hP.sub isC (zq_fm hC)) hc he, zx_pre hK hP hD hS hA hH hE isC hC hnC⟩ rfl hln hsz hst (lv_room hW) hdg hcs) hS (fun q _ h => h.elim) hFc (fun q _ h => hFc q h) (fun E1 ce q9 u t H1 locs1 ht hvm _ hB hz1 hk1 hS1 hce hcv hcl => ?_) (fun u t H1 locs1 ht hvm hw => hw.elim)
  obtain ⟨rfl, hB, hG9⟩ := hB
  have hG : H0.size + 1 ≤ H1.size := Nat.le_trans (Nat.succ_le_succ hS.1) (by rw [← ht]; exact hG9)
  obtain ⟨h1, h2⟩ := zq_back hP hD hS hA isC isR hC hR hn hdis pm hpm hnp ht hk1 hB
  exact kx H1 locs1 q9 ce h1 h2 hS1 hce hcv hcl hG
theorem zx_cVi {Q : State → Prop} (S : CallFix p m c cc nL s args Ts own) (hM : zx_Mi l y wsy rm D ty (.ref b :: As) wc E H.size) (cw : CallW R s args own C index y bytes maxL ret wsy rm 1 6 n)
    (hK : va_K D vwCl ty s) (hP : va_P D vwCl ws H) (hD : va_D A ws) (hS : va_S A H0 H locs) (hA : ∀ q, H0.size ≤ q → A q) (hH : zx_H A s H) (hE : zx_E s) (isC isR pm : List Nat) (hC : isC.map (fun i => ws[i]?) = wc.map some) (hnC : va_nd isC = true) (hR : isR.map (fun i => ws[i]?) = wr.map some) (hn : va_nd isR = true) (hdis : ∀ i ∈ isR, i ∉ isC)
    (hpm : pm.map (fun i => (wr ++ wc)[i]?) = ws.map some) (hnp : va_nd pm = true) (hc : vwCl[ci]? = some (C, T, N)) (q0 : Nat) (he : wc[q0]? = some (b, .inr (ci, fs))) (hln : As.length = n) (hsz : ls.size = nL) (hst : st0 = As.reverse ++ .ref b :: rest) (hW : (rest.map fun v => v.category).sum ≤ 8) (hdg : decode cc pc = .ok (.invokevirtual index, 3)) (hcs : cells + 1 ≤ R.cells ∧ slots + 6 ≤ R.slots)
    (kx : ∀ (H1 : Heap) (locs1 : List Loc) (q9 : Addr) (ce : Cell), va_P D vwCl ws H1 → va_D A ws → va_S A H0 H1 locs1 → H1[q9]? = some ce → ce.vm = .none → s.vm.findClass E = some ce.cls → H0.size + 1 ≤ H1.size → vx_W p l e R s m args below meth c H1 locs1 (cells + 1) (slots + 6) Q (F0 m pc ls rest) q9) : W p l e R s m args below meth c H locs cells slots Q (F0 m pc ls st0) := by
  have hFc := va_free hD hS hA isC hC
  refine vx_calli (vx_runV (As := As) (rest := rest) S hM cw ⟨zx_blind, va_recv hK (hP.sub isC (zq_fm hC)) hc he, zx_pre hK hP hD hS hA hH hE isC hC hnC⟩ rfl hln hsz hst (lv_room hW) hdg hcs) hS (fun q _ h => h.elim) hFc (fun q _ h => hFc q h) (fun E1 ce q9 u t H1 locs1 ht hvm _ hB hz1 hk1 hS1 hce hcv hcl => ?_) (fun r u t H1 locs1 ht hvm hw => hw.elim)
  obtain ⟨rfl, hB, hG9⟩ := hB
  have hG : H0.size + 1 ≤ H1.size := Nat.le_trans (Nat.succ_le_succ hS.1) (by rw [← ht]; exact hG9)
  obtain ⟨h1, h2⟩ := zq_back hP hD hS hA isC isR hC hR hn hdis pm hpm hnp ht hk1 hB
  exact kx H1 locs1 q9 ce h1 h2 hS1 hce hcv hcl hG
theorem zx_cVd {Q : State → Prop} (S : CallFix p m c cc nL s args Ts own) (hM : zx_Md l y wsy rm D ty (.ref b :: As) wc E H.size) (cw : CallW R s args own C index y bytes maxL ret wsy rm 1 6 n)
    (hK : va_K D vwCl ty s) (hP : va_P D vwCl ws H) (hD : va_D A ws) (hS : va_S A H0 H locs) (hA : ∀ q, H0.size ≤ q → A q) (hH : zx_H A s H) (hE : zx_E s) (isC isR pm : List Nat) (hC : isC.map (fun i => ws[i]?) = wc.map some) (hnC : va_nd isC = true) (hR : isR.map (fun i => ws[i]?) = wr.map some) (hn : va_nd isR = true) (hdis : ∀ i ∈ isR, i ∉ isC)
    (hpm : pm.map (fun i => (wr ++ wc)[i]?) = ws.map some) (hnp : va_nd pm = true) (hc : vwCl[ci]? = some (C, T, N)) (q0 : Nat) (he : wc[q0]? = some (b, .inr (ci, fs))) (hln : As.length = n) (hsz : ls.size = nL) (hst : st0 = As.reverse ++ .ref b :: rest) (hW : (rest.map fun v => v.category).sum ≤ 8) (hdg : decode cc pc = .ok (.invokevirtual index, 3)) (hcs : cells + 1 ≤ R.cells ∧ slots + 6 ≤ R.slots)
    (kx : ∀ (H1 : Heap) (locs1 : List Loc) (q9 : Addr) (ce : Cell), va_P D vwCl ws H1 → va_D A ws → va_S A H0 H1 locs1 → H1[q9]? = some ce → ce.vm = .none → s.vm.findClass E = some ce.cls → H0.size + 1 ≤ H1.size → vx_W p l e R s m args below meth c H1 locs1 (cells + 1) (slots + 6) Q (F0 m pc ls rest) q9) : W p l e R s m args below meth c H locs cells slots Q (F0 m pc ls st0) := by
  have hFc := va_free hD hS hA isC hC
  refine vx_calld (vx_runV (As := As) (rest := rest) S hM cw ⟨zx_blind, va_recv hK (hP.sub isC (zq_fm hC)) hc he, zx_pre hK hP hD hS hA hH hE isC hC hnC⟩ rfl hln hsz hst (lv_room hW) hdg hcs) hS (fun q _ h => h.elim) hFc (fun q _ h => hFc q h) (fun E1 ce q9 u t H1 locs1 ht hvm _ hB hz1 hk1 hS1 hce hcv hcl => ?_) (fun r u t H1 locs1 ht hvm hw => hw.elim)
  obtain ⟨rfl, hB, hG9⟩ := hB
  have hG : H0.size + 1 ≤ H1.size := Nat.le_trans (Nat.succ_le_succ hS.1) (by rw [← ht]; exact hG9)
  obtain ⟨h1, h2⟩ := zq_back hP hD hS hA isC isR hC hR hn hdis pm hpm hnp ht hk1 hB
  exact kx H1 locs1 q9 ce h1 h2 hS1 hce hcv hcl hG
theorem zx_cSv {Q : State → Prop} (S : CallFix p m c cc nL s args Ts own) (hM : zx_Mv l y wsy rm D ty As [] E H.size) (cw : CallB R s args own index y bytes maxL ret wsy rm 1 6 n ∧ (Cond.static y).before args s = true)
    (hK : va_K D vwCl ty s) (hP : va_P D vwCl ws H) (hD : va_D A ws) (hS : va_S A H0 H locs) (hA : ∀ q, H0.size ≤ q → A q) (hH : zx_H A s H) (hE : zx_E s) (hln : As.length = n) (hsz : ls.size = nL) (hst : st0 = As.reverse ++ rest) (hW : (rest.map fun v => v.category).sum ≤ 8) (hdg : decode cc pc = .ok (.invokestatic index, 3)) (hcs : cells + 1 ≤ R.cells ∧ slots + 6 ≤ R.slots)
    (kx : ∀ (H1 : Heap) (locs1 : List Loc) (q9 : Addr) (ce : Cell), va_P D vwCl ws H1 → va_D A ws → va_S A H0 H1 locs1 → H1[q9]? = some ce → ce.vm = .none → s.vm.findClass E = some ce.cls → H0.size + 1 ≤ H1.size → vx_W p l e R s m args below meth c H1 locs1 (cells + 1) (slots + 6) Q (F0 m pc ls rest) q9) : W p l e R s m args below meth c H locs cells slots Q (F0 m pc ls st0) := by
  have hFc : ∀ q, va_A ([] : va_W) H.size q → A q := va_free (wc := []) hD hS hA [] rfl
  refine vx_callv (vx_runS (As := As) (rest := rest) S hM cw ⟨zx_blind, zx_pre (wc := []) hK hP hD hS hA hH hE [] rfl rfl⟩ rfl hln hsz hst (lv_room hW) hdg hcs) hS (fun q _ h => h.elim) hFc (fun q _ h => hFc q h) (fun E1 ce q9 u t H1 locs1 ht hvm _ hB hz1 hk1 hS1 hce hcv hcl => ?_) (fun u t H1 locs1 ht hvm hw => hw.elim)
  obtain ⟨rfl, hB, hG9⟩ := hB
  have hG : H0.size + 1 ≤ H1.size := Nat.le_trans (Nat.succ_le_succ hS.1) (by rw [← ht]; exact hG9)
  have h1 : va_P D vwCl ws H1 := hP.kept (fun k q hk => hk1 q.1 (vx_lt hP hk) (fun h => by
    rcases h with ⟨k, e, h⟩ | h
    · simp at h
    · exact absurd (vx_lt hP hk) (Nat.not_lt.mpr h)))
  exact kx H1 locs1 q9 ce h1 hD hS1 hce hcv hcl hG
/-- not caught here -/
theorem zx_on {Qc : Array Value → State → Outcome → State → Prop} {q9 : Addr} {ce : Cell} (hno : ∀ x ∈ c.exceptionTable.toList, False) (hlocks : meth.locks = false) (hP : va_P D vwCl ws H) (hK : va_K D vwCl ty s) (hD : va_D A ws) (hS : va_S A s.heap H locs) (hce : H[q9]? = some ce) (hcv : ce.vm = .none) (hcl : s.vm.findClass E = some ce.cls) (hG : s.heap.size + 1 ≤ H.size) (hc : cells ≤ 1) (hs : slots ≤ 6) :
    vx_W p l e R s m args below meth c H locs cells slots (vx_MQ below Qc (zx_X D ty E ws A s.heap.size) args s 1 6 A) (F0 m pc ls rest) q9 :=
  vx_out (fun x hx => (hno x hx).elim) hlocks hce hcv hcl (zx_went hP hK hD hS hG) hS.2.2 hc hs
end ZX
theorem la_fault_w {le ki : Nat → Int32} {ca : Nat → UInt64} {j : Nat} : la_fault (upd le j 0) ki ca j = 0 ↔ la_weak ki ca j = false := by
  unfold la_fault
  rw [if_pos pk_us]
  cases la_weak ki ca j with
  | false => exact iff_of_true rfl rfl
  | true => exact iff_of_false (by decide) (by decide)
theorem in_b_k {k : Int32} (h : in_b k 0 2 = true) : ¬ k < 0 ∧ k < 3 := by
  obtain ⟨j, hj, rfl⟩ := in_b_3 h
  exact ⟨nI_pos (by omega), (nI_ltI (b := 3) (by omega) (by decide)).mpr hj⟩
theorem in_b_kn {k : Int32} (h : in_b k 0 2 = false) : k < 0 ∨ ¬ k < 3 := by
  by_cases h1 : k < 0
  · exact Or.inl h1
  · refine Or.inr (fun h2 => ?_)
    obtain ⟨j, hj, rfl⟩ := nI_of h1
    have h3 := (nI_ltI (b := 3) hj (by decide)).mp h2
    have h4 : in_b (nI j) 0 (nI 3 - 1) = true := in_b_ok h3 (by decide)
    rw [show nI 3 - 1 = 2 from rfl] at h4
    rw [h4] at h
    cases h
theorem in_b_n {v : Int32} {n : Nat} (hn : n < 2 ^ 31) (h : in_b v 0 (nI n - 1) = false) : v < 0 ∨ ¬ v < nI n := by
  by_cases h1 : v < 0
  · exact Or.inl h1
  · refine Or.inr (fun h2 => ?_)
    obtain ⟨j, hj, rfl⟩ := nI_of h1
    rw [in_b_ok ((nI_ltI hj hn).mp h2) hn] at h
    cases h
abbrev zq_Sv (l : Launch) (y : MethodName) (wsy : List Cond) (rm : Room) (as : List Value) : Prop :=
  Met l y wsy rm (va_Pc as (fun _ => True)) (va_Qv (fun (_ : Unit) => True) (fun _ _ => True) (fun _ => False)) 0 0 (fun _ => False)
theorem zq_cSv {p : Program} {l : Launch} {e : Env} {R : Room} {s : State} {m : MethodId} {args : Array Value} {below : List Frame} {meth : Method} {c : Code} {H : Heap} {locs : List Loc} {cells slots : Nat} {Q : State → Prop} {cc : ByteArray} {pc : Nat} {ls : Array Slot} {rest st0 : List Value}
    {D : va_G} {A : Nat → Prop} {H0 : Heap} {ws : va_W} {y : MethodName} {bytes : ByteArray} {maxL nL n index : Nat} {ret : Option FieldType} {wsy Ts : List Cond} {rm : Room} {own : String} {As : List Value}
    (S : CallFix p m c cc nL s args Ts own) (hM : zq_Sv l y wsy rm As) (cw : CallB R s args own index y bytes maxL ret wsy rm 0 0 n ∧ (Cond.static y).before args s = true)
    (hP : va_P D vwCl ws H) (hS : va_S A H0 H locs) (hln : As.length = n) (hsz : ls.size = nL) (hst : st0 = As.reverse ++ rest) (hW : (rest.map fun v => v.category).sum ≤ 8) (hdg : decode cc pc = .ok (.invokestatic index, 3)) (hcs : cells ≤ R.cells ∧ slots ≤ R.slots)
    (kk : ∀ (H1 : Heap) (locs1 : List Loc), va_P D vwCl ws H1 → va_S A H0 H1 locs1 → W p l e R s m args below meth c H1 locs1 cells slots Q (F0 m (pc + 3) ls rest)) : W p l e R s m args below meth c H locs cells slots Q (F0 m pc ls st0) := by
  refine va_callv (va_runS (As := As) (rest := rest) S hM cw ⟨fun a U g mk q => q, fun U hU hW => ⟨rfl, trivial⟩⟩ rfl hln hsz hst (lv_room hW) hdg hcs) hS (fun q _ h => h.elim) (fun q h => h.elim) (fun u t H1 locs1 ht hvm hw hB hz1 hk1 hS1 => ?_)
  exact kk H1 locs1 (hP.kept (fun k q hk => hk1 q.1 (vx_lt hP hk) (fun h => h))) hS1
end
section
-- own words for the room's loops
def la_dkc (x : UInt64) : Bool := decide (¬ 0 < Op.cmpValue (FP.dcmp x 0) CmpOp.g)
/-- an alarm begins, if there is ground for it and it doesn't last already -/
def ba_k (bb : Bool) (be : Nat → Int32) (k : Nat) (h : Int32) : (Nat → Int32) × Nat := if bb = true ∧ be k = 0 then (upd be k h, 1) else (be, 0)
theorem ba_f {be : Nat → Int32} {k : Nat} {h : Int32} : ba_k false be k h = (be, 0) := by
  unfold ba_k
  rw [if_neg]
  exact fun q => absurd q.1 (by decide)
theorem ba_n1 {be : Nat → Int32} {k : Nat} {h : Int32} (d : decide (be k = 0) = true) : (ba_k true be k h).2 = 1 := by
  unfold ba_k
  rw [if_pos ⟨rfl, of_decide_eq_true d⟩]
theorem ba_n0 {be : Nat → Int32} {k : Nat} {h : Int32} (d : decide (be k = 0) = false) : (ba_k true be k h).2 = 0 := by
  unfold ba_k
  rw [if_neg (fun q => of_decide_eq_false d q.2)]
def pb_2 (hu : Nat → Int32) (ch : Nat → UInt64) (be : Nat → Int32) (clk : Int32) (j mi : Nat) : (Nat → Int32) × Nat :=
  ((ba_k (la_dkc (ch j)) (ba_k (la_lt9 clk (hu mi)) be (2 * mi + 0) clk).1 (2 * mi + 1) clk).1, (ba_k (la_lt9 clk (hu mi)) be (2 * mi + 0) clk).2 + (ba_k (la_dkc (ch j)) (ba_k (la_lt9 clk (hu mi)) be (2 * mi + 0) clk).1 (2 * mi + 1) clk).2)
def pb_k (th hu : Nat → Int32) (ch : Nat → UInt64) (be : Nat → Int32) (clk : Int32) : Nat → (Nat → Int32) × Nat
  | 0 => (be, 0)
  | m + 1 => if th m = -1 then pb_k th hu ch be clk m else ((pb_2 hu ch (pb_k th hu ch be clk m).1 clk (th m).toNatClampNeg m).1, (pb_k th hu ch be clk m).2 + (pb_2 hu ch (pb_k th hu ch be clk m).1 clk (th m).toNatClampNeg m).2)
def sp_a (ki tk th : Nat → Int32) (j : Nat) : Bool := decide (¬ th j = -1) && decide (¬ ki (th j).toNatClampNeg ≤ tk j)
end
section
set_option maxHeartbeats 4000000 in
set_option maxRecDepth 100000 in
theorem c_X0_isAhead (l : Launch) (dC : Nat → ClassId) (dI : Nat → Nat → Nat) (a : Nat → Nat) (cI cZ cD : ClassId) (be : Nat → Int32) (o k : Nat) (ho : o < 60) (hk : k < 60) (sz : Nat) : zq_Mi l yX0_isAhead wsX0_isAhead ({ frames := 0, cells := 0, slots := 0, locals := 0 } : Room) (dC, dI) (zq_T cI cZ cD) [.ref (a 13), .int (nI o), .int (nI k)] (wAl a cI be) (zb (al_ah be o k)) (wAl a cI be) sz := by
  refine Met.ofW (cc := cX0_isAhead) (maxL := 3) (ret := (some .boolean)) (by decide) rfl ?_
  intro p e s m args below meth c s₁ B hml hv
  obtain ⟨rfl, hsz, hP, hK, hD0⟩ := hv
  have hx := B.exec
  have hb := B.bytes
  have hr := B.returns
  have hts := atoms_spec (ws := wsX0_isAhead) B.pre
  have hown : s.vm.findClass RX0 = some m.cls := findClass_of_methodNamed B.named
  have hlocks := B.notSynchronized
  subst hsz
  have hD := hD0.self (sz := s.heap.size)
  generalize hAe : va_A (wAl a cI be) s.heap.size = A at hD ⊢
  have hA : ∀ q : Nat, s.heap.size ≤ q → A q := fun q h => by rw [← hAe]; exact Or.inr h
  have hS : va_S A s.heap s.heap [] := va_S.rf
  have hP : va_P (dC, dI) vwCl (wAl a cI be) s.heap := hP
  have hl := lv_entry ([.ref (a 13), .int (nI o), .int (nI k)]) (n := 3) (Nat.le_of_ble_eq_true rfl)
  rw [lg_entry_eq]
  generalize (lg_sl ([.ref (a 13), .int (nI o), .int (nI k)]) ++ List.replicate (3 - (lg_sl ([.ref (a 13), .int (nI o), .int (nI k)])).length) Slot.unset).toArray = ls at hl ⊢
  have hl : lv_has ls 3 [(0, .ref (a 13)), (1, .int (nI o)), (2, .int (nI k))] := hl
  have hf_9 := hts (.fieldLink RX0 9 "LampRoom$Alarms" "began" "[I") (by decide +kernel)
  have hin_0 : ∀ w ∈ wsX00, w ∈ wsX0_isAhead := by decide +kernel
  refine lv_aload_n hx hb dX0_isAhead_0 rfl (lv_at hl 0 rfl) ?_
  refine va_get (D := (dC, dI)) (ci := 0) (v := .ref (a 14)) (C := RX0) (T := TX0) (N := 1) hx hb hts hin_0 hown hK hP 0 rfl rfl 0 (by decide) hf_9 (fun _ h9 => h9) rfl dX0_isAhead_1 ?_
  refine lv_iload_n hx hb dX0_isAhead_4 rfl (lv_at hl 1 rfl) ?_
  refine zq_iald hx hb hK hP 1 0 rfl rfl (j := o) (by omega) (by decide) dX0_isAhead_5 ?_
  refine lv_aload_n hx hb dX0_isAhead_6 rfl (lv_at hl 0 rfl) ?_
  refine va_get (D := (dC, dI)) (ci := 0) (v := .ref (a 14)) (C := RX0) (T := TX0) (N := 1) hx hb hts hin_0 hown hK hP 0 rfl rfl 0 (by decide) hf_9 (fun _ h9 => h9) rfl dX0_isAhead_7 ?_
  refine lv_iload_n hx hb dX0_isAhead_10 rfl (lv_at hl 2 rfl) ?_
  refine zq_iald hx hb hK hP 1 0 rfl rfl (j := k) (by omega) (by decide) dX0_isAhead_11 ?_
  refine lv_icmp_lt (tgt := 35) hx hb dX0_isAhead_12 (by decide) (fun c_0 => ?_) (fun c_0 => ?_)
  · refine lv_iconst (v := 1) hx hb dX0_isAhead_35 (by decide) ?_
    refine lv_goto (tgt := 40) hx hb dX0_isAhead_36 (by decide) ?_
    exact W.zret (v := 1) hx hb hr (by rfl) (zq_qi (by first | with_reducible rfl | simp [zb, al_ah, c_0]) hP hK hD hS) hS.2.2 dX0_isAhead_40
  · refine lv_aload_n hx hb dX0_isAhead_15 rfl (lv_at hl 0 rfl) ?_
    refine va_get (D := (dC, dI)) (ci := 0) (v := .ref (a 14)) (C := RX0) (T := TX0) (N := 1) hx hb hts hin_0 hown hK hP 0 rfl rfl 0 (by decide) hf_9 (fun _ h9 => h9) rfl dX0_isAhead_16 ?_
    refine lv_iload_n hx hb dX0_isAhead_19 rfl (lv_at hl 1 rfl) ?_
    refine zq_iald hx hb hK hP 1 0 rfl rfl (j := o) (by omega) (by decide) dX0_isAhead_20 ?_
    refine lv_aload_n hx hb dX0_isAhead_21 rfl (lv_at hl 0 rfl) ?_
    refine va_get (D := (dC, dI)) (ci := 0) (v := .ref (a 14)) (C := RX0) (T := TX0) (N := 1) hx hb hts hin_0 hown hK hP 0 rfl rfl 0 (by decide) hf_9 (fun _ h9 => h9) rfl dX0_isAhead_22 ?_
    refine lv_iload_n hx hb dX0_isAhead_25 rfl (lv_at hl 2 rfl) ?_
    refine zq_iald hx hb hK hP 1 0 rfl rfl (j := k) (by omega) (by decide) dX0_isAhead_26 ?_
    refine lv_icmp_ne (tgt := 39) hx hb dX0_isAhead_27 (by decide) (fun c_1 => ?_) (fun c_1 => ?_)
    · refine lv_iconst (v := 0) hx hb dX0_isAhead_39 (by decide) ?_
      exact W.zret (v := 0) hx hb hr (by rfl) (zq_qi (by first | with_reducible rfl | simp [zb, al_ah, c_0, c_1]) hP hK hD hS) hS.2.2 dX0_isAhead_40
    · refine lv_iload_n hx hb dX0_isAhead_30 rfl (lv_at hl 1 rfl) ?_
      refine lv_iload_n hx hb dX0_isAhead_31 rfl (lv_at hl 2 rfl) ?_
      refine lv_icmp_ge (tgt := 39) hx hb dX0_isAhead_32 (by decide) (fun c_2 => ?_) (fun c_2 => ?_)
      · have d_2 := (nI_leI (a := k) (b := o) (by omega) (by omega)).mp c_2
        refine lv_iconst (v := 0) hx hb dX0_isAhead_39 (by decide) ?_
        exact W.zret (v := 0) hx hb hr (by rfl) (zq_qi (by first | with_reducible rfl | simp [zb, al_ah, c_0, c_1, d_2]) hP hK hD hS) hS.2.2 dX0_isAhead_40
      · have d_2 := Nat.not_le.mp (fun h => c_2 ((nI_leI (a := k) (b := o) (by omega) (by omega)).mpr h))
        refine lv_iconst (v := 1) hx hb dX0_isAhead_35 (by decide) ?_
        refine lv_goto (tgt := 40) hx hb dX0_isAhead_36 (by decide) ?_
        exact W.zret (v := 1) hx hb hr (by rfl) (zq_qi (by first | with_reducible rfl | simp [zb, al_ah, c_0, c_1, d_2]) hP hK hD hS) hS.2.2 dX0_isAhead_40

set_option maxHeartbeats 4000000 in
set_option maxRecDepth 100000 in
theorem c_X0_countAhead (l : Launch) (dC : Nat → ClassId) (dI : Nat → Nat → Nat) (a : Nat → Nat) (cI cZ cD : ClassId) (be : Nat → Int32) (k : Nat) (hk : k < 60) (sz : Nat) : zq_Mi l yX0_countAhead wsX0_countAhead ({ frames := 1, cells := 0, slots := 0, locals := 22 } : Room) (dC, dI) (zq_T cI cZ cD) [.ref (a 13), .int (nI k)] (wAl a cI be) (nI (zf_cnt (al_p be k) 60)) (wAl a cI be) sz := by
  refine Met.ofW (cc := cX0_countAhead) (maxL := 4) (ret := (some .int)) (by decide) rfl ?_
  intro p e s m args below meth c s₁ B hml hv
  obtain ⟨rfl, hsz, hP, hK, hD0⟩ := hv
  have hx := B.exec
  have hb := B.bytes
  have hr := B.returns
  have hts := atoms_spec (ws := wsX0_countAhead) B.pre
  have hown : s.vm.findClass RX0 = some m.cls := findClass_of_methodNamed B.named
  have hlocks := B.notSynchronized
  subst hsz
  have hD := hD0.self (sz := s.heap.size)
  generalize hAe : va_A (wAl a cI be) s.heap.size = A at hD ⊢
  have hA : ∀ q : Nat, s.heap.size ≤ q → A q := fun q h => by rw [← hAe]; exact Or.inr h
  have hS : va_S A s.heap s.heap [] := va_S.rf
  have hP : va_P (dC, dI) vwCl (wAl a cI be) s.heap := hP
  have hl := lv_entry ([.ref (a 13), .int (nI k)]) (n := 4) (Nat.le_of_ble_eq_true rfl)
  rw [lg_entry_eq]
  generalize (lg_sl ([.ref (a 13), .int (nI k)]) ++ List.replicate (4 - (lg_sl ([.ref (a 13), .int (nI k)])).length) Slot.unset).toArray = ls at hl ⊢
  have hl : lv_has ls 4 [(0, .ref (a 13)), (1, .int (nI k))] := hl
  have hf_9 := hts (.fieldLink RX0 9 "LampRoom$Alarms" "began" "[I") (by decide +kernel)
  have hin_0 : ∀ w ∈ wsX00, w ∈ wsX0_countAhead := by decide +kernel
  refine lv_iconst (v := 0) hx hb dX0_countAhead_0 (by decide) ?_
  refine lv_istore_n (lv' := [(2, .int 0), (0, .ref (a 13)), (1, .int (nI k))]) hx hb dX0_countAhead_1 rfl hl (by decide) rfl (fun ls hl => ?_)
  refine lv_iconst (v := 0) hx hb dX0_countAhead_2 (by decide) ?_
  refine lv_istore_n (lv' := [(3, .int 0), (2, .int 0), (0, .ref (a 13)), (1, .int (nI k))]) hx hb dX0_countAhead_3 rfl hl (by decide) rfl (fun ls hl => ?_)
  refine zq_loop 4 60 (fun i H locs ls => va_P (dC, dI) vwCl (wAl a cI be) H ∧ va_D A (wAl a cI be) ∧ va_S A s.heap H locs ∧ lv_has ls 4 [(2, .int (nI (zf_cnt (al_p be k) i))), (3, .int (nI i)), (0, .ref (a 13)), (1, .int (nI k))]) ?_ 0 (by omega) _ _ _ ⟨hP, hD, hS, lv_sub hl [1, 0, 2, 3] rfl⟩
  intro i hi_i ih_i H locs ls hh
  obtain ⟨hP, hD, hS, hl⟩ := hh
  refine lv_iload_n hx hb dX0_countAhead_4 rfl (lv_at hl 1 rfl) ?_
  refine lv_aload_n hx hb dX0_countAhead_5 rfl (lv_at hl 2 rfl) ?_
  refine va_get (D := (dC, dI)) (ci := 0) (v := .ref (a 14)) (C := RX0) (T := TX0) (N := 1) hx hb hts hin_0 hown hK hP 0 rfl rfl 0 (by decide) hf_9 (fun _ h9 => h9) rfl dX0_countAhead_6 ?_
  refine va_alen hx hb hK hP 1 0 rfl rfl (v := nI 60) rfl dX0_countAhead_9 ?_
  refine lv_icmp_ge (tgt := 40) hx hb dX0_countAhead_10 (by decide) (fun c_0 => ?_) (fun c_0 => ?_)
  · have d_0 := (nI_leI (a := 60) (b := i) (by omega) (by omega)).mp c_0
    have ei_i : i = 60 := by omega
    refine lv_iload_n hx hb dX0_countAhead_40 rfl (lv_at hl 0 rfl) ?_
    exact W.iret (v := nI (zf_cnt (al_p be k) i)) hx hb hr (zq_qi (by first | with_reducible rfl | simp [d_0, ei_i]) hP hK hD hS) hS.2.2 dX0_countAhead_41
  · have d_0 := Nat.not_le.mp (fun h => c_0 ((nI_leI (a := 60) (b := i) (by omega) (by omega)).mpr h))
    refine lv_aload_n hx hb dX0_countAhead_13 rfl (lv_at hl 2 rfl) ?_
    refine va_get (D := (dC, dI)) (ci := 0) (v := .ref (a 14)) (C := RX0) (T := TX0) (N := 1) hx hb hts hin_0 hown hK hP 0 rfl rfl 0 (by decide) hf_9 (fun _ h9 => h9) rfl dX0_countAhead_14 ?_
    refine lv_iload_n hx hb dX0_countAhead_17 rfl (lv_at hl 1 rfl) ?_
    refine zq_iald hx hb hK hP 1 0 rfl rfl (j := i) (by omega) (by decide) dX0_countAhead_18 ?_
    refine lv_if_eq (tgt := 34) hx hb dX0_countAhead_19 (by decide) (fun c_1 => ?_) (fun c_1 => ?_)
    · refine lv_iinc (v := nI (i + 1)) (lv' := [(3, .int (nI (i + 1))), (2, .int (nI (zf_cnt (al_p be k) i))), (0, .ref (a 13)), (1, .int (nI k))]) hx hb dX0_countAhead_34 hl (k := 1) rfl (nI_add _ 1) (by decide) rfl (fun ls hl => ?_)
      refine lv_goto (tgt := 4) hx hb dX0_countAhead_37 (by decide) ?_
      have e_2 : (nI (zf_cnt (al_p be k) (i + 1))) = (nI (zf_cnt (al_p be k) i)) := by rw [zf_cnt_f (by simp [al_p, d_0, c_1])]
      exact ih_i _ _ _ (by omega) ⟨(by (try rw [e_2]); exact hP), (by (try rw [e_2]); exact hD), hS, (by (try rw [e_2]); exact lv_sub hl [1, 0, 2, 3] rfl)⟩
    · refine lv_aload_n hx hb dX0_countAhead_22 rfl (lv_at hl 2 rfl) ?_
      refine lv_iload_n hx hb dX0_countAhead_23 rfl (lv_at hl 1 rfl) ?_
      refine lv_iload_n hx hb dX0_countAhead_24 rfl (lv_at hl 3 rfl) ?_
      refine zq_cVi (As := [.int (nI i), .int (nI k)]) (rest := []) (wc := (wAl a cI be)) (w1 := (wAl a cI be)) (wr := ([] : va_W)) (ws' := (wAl a cI be)) ⟨hx, hb, hml, hown, hts⟩ (c_X0_isAhead l dC dI a cI cZ cD be i k (by omega) (by omega) H.size) (cwV 2 hts gX0_countAhead_X0_isAhead rfl rfl rfl (by decide +kernel) ⟨Nat.le_of_ble_eq_true rfl, Nat.le_of_ble_eq_true rfl⟩) hK hP hD hS hA [0, 1] [] [0, 1] rfl rfl rfl rfl (by decide) rfl rfl (ci := 0) rfl 0 rfl rfl hl.1 rfl (Nat.le_of_ble_eq_true rfl) dX0_countAhead_25 ⟨Nat.zero_le _, Nat.zero_le _⟩ (fun H locs hP hD hS => ?_)
      refine lv_if_eq (tgt := 34) hx hb dX0_countAhead_28 (by decide) (fun c_3 => ?_) (fun c_3 => ?_)
      · have d_3 := zb_eq c_3
        refine lv_iinc (v := nI (i + 1)) (lv' := [(3, .int (nI (i + 1))), (2, .int (nI (zf_cnt (al_p be k) i))), (0, .ref (a 13)), (1, .int (nI k))]) hx hb dX0_countAhead_34 hl (k := 1) rfl (nI_add _ 1) (by decide) rfl (fun ls hl => ?_)
        refine lv_goto (tgt := 4) hx hb dX0_countAhead_37 (by decide) ?_
        have e_4 : (nI (zf_cnt (al_p be k) (i + 1))) = (nI (zf_cnt (al_p be k) i)) := by rw [zf_cnt_f (by simp [al_p, d_0, c_1, d_3])]
        exact ih_i _ _ _ (by omega) ⟨(by (try rw [e_4]); exact hP), (by (try rw [e_4]); exact hD), hS, (by (try rw [e_4]); exact lv_sub hl [1, 0, 2, 3] rfl)⟩
      · have d_3 := zb_ne c_3
        refine lv_iinc (v := nI ((zf_cnt (al_p be k) i) + 1)) (lv' := [(2, .int (nI ((zf_cnt (al_p be k) i) + 1))), (3, .int (nI i)), (0, .ref (a 13)), (1, .int (nI k))]) hx hb dX0_countAhead_31 hl (k := 0) rfl (nI_add _ 1) (by decide) rfl (fun ls hl => ?_)
        refine lv_iinc (v := nI (i + 1)) (lv' := [(3, .int (nI (i + 1))), (2, .int (nI ((zf_cnt (al_p be k) i) + 1))), (0, .ref (a 13)), (1, .int (nI k))]) hx hb dX0_countAhead_34 hl (k := 1) rfl (nI_add _ 1) (by decide) rfl (fun ls hl => ?_)
        refine lv_goto (tgt := 4) hx hb dX0_countAhead_37 (by decide) ?_
        have e_5 : (nI (zf_cnt (al_p be k) (i + 1))) = (nI ((zf_cnt (al_p be k) i) + 1)) := by rw [zf_cnt_t (by simp [al_p, d_0, c_1, d_3])]
        exact ih_i _ _ _ (by omega) ⟨(by (try rw [e_5]); exact hP), (by (try rw [e_5]); exact hD), hS, (by (try rw [e_5]); exact lv_sub hl [1, 0, 2, 3] rfl)⟩

set_option maxHeartbeats 4000000 in
set_option maxRecDepth 100000 in
theorem c_X0_lastingAt (l : Launch) (dC : Nat → ClassId) (dI : Nat → Nat → Nat) (a : Nat → Nat) (cI cZ cD : ClassId) (be : Nat → Int32) (pl : Int32) (sz : Nat) : zq_Mi l yX0_lastingAt wsX0_lastingAt ({ frames := 2, cells := 0, slots := 0, locals := 45 } : Room) (dC, dI) (zq_T cI cZ cD) [.ref (a 13), .int pl] (wAl a cI be) (zf_find (al_hit be pl) 60 0) (wAl a cI be) sz := by
  refine Met.ofW (cc := cX0_lastingAt) (maxL := 3) (ret := (some .int)) (by decide) rfl ?_
  intro p e s m args below meth c s₁ B hml hv
  obtain ⟨rfl, hsz, hP, hK, hD0⟩ := hv
  have hx := B.exec
  have hb := B.bytes
  have hr := B.returns
  have hts := atoms_spec (ws := wsX0_lastingAt) B.pre
  have hown : s.vm.findClass RX0 = some m.cls := findClass_of_methodNamed B.named
  have hlocks := B.notSynchronized
  subst hsz
  have hD := hD0.self (sz := s.heap.size)
  generalize hAe : va_A (wAl a cI be) s.heap.size = A at hD ⊢
  have hA : ∀ q : Nat, s.heap.size ≤ q → A q := fun q h => by rw [← hAe]; exact Or.inr h
  have hS : va_S A s.heap s.heap [] := va_S.rf
  have hP : va_P (dC, dI) vwCl (wAl a cI be) s.heap := hP
  have hl := lv_entry ([.ref (a 13), .int pl]) (n := 3) (Nat.le_of_ble_eq_true rfl)
  rw [lg_entry_eq]
  generalize (lg_sl ([.ref (a 13), .int pl]) ++ List.replicate (3 - (lg_sl ([.ref (a 13), .int pl])).length) Slot.unset).toArray = ls at hl ⊢
  have hl : lv_has ls 3 [(0, .ref (a 13)), (1, .int pl)] := hl
  have hf_9 := hts (.fieldLink RX0 9 "LampRoom$Alarms" "began" "[I") (by decide +kernel)
  have hin_0 : ∀ w ∈ wsX00, w ∈ wsX0_lastingAt := by decide +kernel
  refine lv_iconst (v := 0) hx hb dX0_lastingAt_0 (by decide) ?_
  refine lv_istore_n (lv' := [(2, .int 0), (0, .ref (a 13)), (1, .int pl)]) hx hb dX0_lastingAt_1 rfl hl (by decide) rfl (fun ls hl => ?_)
  refine zq_loop 2 60 (fun i H locs ls => va_P (dC, dI) vwCl (wAl a cI be) H ∧ va_D A (wAl a cI be) ∧ va_S A s.heap H locs ∧ lv_has ls 3 [(2, .int (nI i)), (0, .ref (a 13)), (1, .int pl)] ∧ zf_find (al_hit be pl) (60 - i) i = zf_find (al_hit be pl) 60 0) ?_ 0 (by omega) _ _ _ ⟨hP, hD, hS, lv_sub hl [0, 1, 2] rfl, rfl⟩
  intro i hi_i ih_i H locs ls hh
  obtain ⟨hP, hD, hS, hl, hx_i⟩ := hh
  refine lv_iload_n hx hb dX0_lastingAt_2 rfl (lv_at hl 0 rfl) ?_
  refine lv_aload_n hx hb dX0_lastingAt_3 rfl (lv_at hl 1 rfl) ?_
  refine va_get (D := (dC, dI)) (ci := 0) (v := .ref (a 14)) (C := RX0) (T := TX0) (N := 1) hx hb hts hin_0 hown hK hP 0 rfl rfl 0 (by decide) hf_9 (fun _ h9 => h9) rfl dX0_lastingAt_4 ?_
  refine va_alen hx hb hK hP 1 0 rfl rfl (v := nI 60) rfl dX0_lastingAt_7 ?_
  refine lv_icmp_ge (tgt := 37) hx hb dX0_lastingAt_8 (by decide) (fun c_0 => ?_) (fun c_0 => ?_)
  · have d_0 := (nI_leI (a := 60) (b := i) (by omega) (by omega)).mp c_0
    have ei_i : i = 60 := by omega
    refine lv_iconst (v := (-1)) hx hb dX0_lastingAt_37 (by decide) ?_
    exact W.iret (v := (-1)) hx hb hr (zq_qi (by rw [← hx_i]; exact (zf_end (by omega)).symm) hP hK hD hS) hS.2.2 dX0_lastingAt_38
  · have d_0 := Nat.not_le.mp (fun h => c_0 ((nI_leI (a := 60) (b := i) (by omega) (by omega)).mpr h))
    refine lv_aload_n hx hb dX0_lastingAt_11 rfl (lv_at hl 1 rfl) ?_
    refine va_get (D := (dC, dI)) (ci := 0) (v := .ref (a 14)) (C := RX0) (T := TX0) (N := 1) hx hb hts hin_0 hown hK hP 0 rfl rfl 0 (by decide) hf_9 (fun _ h9 => h9) rfl dX0_lastingAt_12 ?_
    refine lv_iload_n hx hb dX0_lastingAt_15 rfl (lv_at hl 0 rfl) ?_
    refine zq_iald hx hb hK hP 1 0 rfl rfl (j := i) (by omega) (by decide) dX0_lastingAt_16 ?_
    refine lv_if_eq (tgt := 31) hx hb dX0_lastingAt_17 (by decide) (fun c_1 => ?_) (fun c_1 => ?_)
    · refine lv_iinc (v := nI (i + 1)) (lv' := [(2, .int (nI (i + 1))), (0, .ref (a 13)), (1, .int pl)]) hx hb dX0_lastingAt_31 hl (k := 0) rfl (nI_add _ 1) (by decide) rfl (fun ls hl => ?_)
      refine lv_goto (tgt := 2) hx hb dX0_lastingAt_34 (by decide) ?_
      exact ih_i _ _ _ (by omega) ⟨hP, hD, hS, lv_sub hl [0, 1, 2] rfl, (by rw [← hx_i]; exact (zf_miss (by omega) (by simp [al_hit, d_0, c_1])).symm)⟩
    · refine lv_aload_n hx hb dX0_lastingAt_20 rfl (lv_at hl 1 rfl) ?_
      refine lv_iload_n hx hb dX0_lastingAt_21 rfl (lv_at hl 0 rfl) ?_
      refine zq_cVi (As := [.int (nI i)]) (rest := []) (wc := (wAl a cI be)) (w1 := (wAl a cI be)) (wr := ([] : va_W)) (ws' := (wAl a cI be)) ⟨hx, hb, hml, hown, hts⟩ (c_X0_countAhead l dC dI a cI cZ cD be i (by omega) H.size) (cwV 1 hts gX0_lastingAt_X0_countAhead rfl rfl rfl (by decide +kernel) ⟨Nat.le_of_ble_eq_true rfl, Nat.le_of_ble_eq_true rfl⟩) hK hP hD hS hA [0, 1] [] [0, 1] rfl rfl rfl rfl (by decide) rfl rfl (ci := 0) rfl 0 rfl rfl hl.1 rfl (Nat.le_of_ble_eq_true rfl) dX0_lastingAt_22 ⟨Nat.zero_le _, Nat.zero_le _⟩ (fun H locs hP hD hS => ?_)
      refine lv_iload_n hx hb dX0_lastingAt_25 rfl (lv_at hl 2 rfl) ?_
      refine lv_icmp_ne (tgt := 31) hx hb dX0_lastingAt_26 (by decide) (fun c_2 => ?_) (fun c_2 => ?_)
      · refine lv_iinc (v := nI (i + 1)) (lv' := [(2, .int (nI (i + 1))), (0, .ref (a 13)), (1, .int pl)]) hx hb dX0_lastingAt_31 hl (k := 0) rfl (nI_add _ 1) (by decide) rfl (fun ls hl => ?_)
        refine lv_goto (tgt := 2) hx hb dX0_lastingAt_34 (by decide) ?_
        exact ih_i _ _ _ (by omega) ⟨hP, hD, hS, lv_sub hl [0, 1, 2] rfl, (by rw [← hx_i]; exact (zf_miss (by omega) (by simp [al_hit, d_0, c_1, c_2])).symm)⟩
      · refine lv_iload_n hx hb dX0_lastingAt_29 rfl (lv_at hl 0 rfl) ?_
        exact W.iret (v := nI i) hx hb hr (zq_qi (by rw [← hx_i]; exact (zf_hit (by omega) (by simp [al_hit, d_0, c_1, c_2])).symm) hP hK hD hS) hS.2.2 dX0_lastingAt_30
end
section
set_option maxHeartbeats 4000000 in
set_option maxRecDepth 100000 in
theorem c_X1_size (l : Launch) (dC : Nat → ClassId) (dI : Nat → Nat → Nat) (a : Nat → Nat) (cI cZ cD : ClassId) (ki pl tu le : Nat → Int32) (ch ca : Nat → UInt64) (N : Nat) (hN : N ≤ 40) (sz : Nat) : zq_Mi l yX1_size wsX1_size ({ frames := 0, cells := 0, slots := 0, locals := 0 } : Room) (dC, dI) (zq_T cI cZ cD) [.ref (a 1)] (wLa a cI cZ cD ki pl tu le ch ca (nI N)) (nI N) (wLa a cI cZ cD ki pl tu le ch ca (nI N)) sz := by
  refine Met.ofW (cc := cX1_size) (maxL := 1) (ret := (some .int)) (by decide) rfl ?_
  intro p e s m args below meth c s₁ B hml hv
  obtain ⟨rfl, hsz, hP, hK, hD0⟩ := hv
  have hx := B.exec
  have hb := B.bytes
  have hr := B.returns
  have hts := atoms_spec (ws := wsX1_size) B.pre
  have hown : s.vm.findClass RX1 = some m.cls := findClass_of_methodNamed B.named
  have hlocks := B.notSynchronized
  subst hsz
  have hD := hD0.self (sz := s.heap.size)
  generalize hAe : va_A (wLa a cI cZ cD ki pl tu le ch ca (nI N)) s.heap.size = A at hD ⊢
  have hA : ∀ q : Nat, s.heap.size ≤ q → A q := fun q h => by rw [← hAe]; exact Or.inr h
  have hS : va_S A s.heap s.heap [] := va_S.rf
  have hP : va_P (dC, dI) vwCl (wLa a cI cZ cD ki pl tu le ch ca (nI N)) s.heap := hP
  have hl := lv_entry ([.ref (a 1)]) (n := 1) (Nat.le_of_ble_eq_true rfl)
  rw [lg_entry_eq]
  generalize (lg_sl ([.ref (a 1)]) ++ List.replicate (1 - (lg_sl ([.ref (a 1)])).length) Slot.unset).toArray = ls at hl ⊢
  have hl : lv_has ls 1 [(0, .ref (a 1))] := hl
  have hf_32 := hts (.fieldLink RX1 32 "LampRoom$Lamps" "count" "I") (by decide +kernel)
  have hin_1 : ∀ w ∈ wsX10, w ∈ wsX1_size := by decide +kernel
  refine lv_aload_n hx hb dX1_size_0 rfl (lv_at hl 0 rfl) ?_
  refine va_get (D := (dC, dI)) (ci := 1) (v := .int (nI N)) (C := RX1) (T := TX1) (N := 7) hx hb hts hin_1 hown hK hP 0 rfl rfl 6 (by decide) hf_32 (fun _ h9 => h9) rfl dX1_size_1 ?_
  exact W.iret (v := nI N) hx hb hr (zq_qi rfl hP hK hD hS) hS.2.2 dX1_size_4

set_option maxHeartbeats 4000000 in
set_option maxRecDepth 100000 in
theorem c_X1_kindAt (l : Launch) (dC : Nat → ClassId) (dI : Nat → Nat → Nat) (a : Nat → Nat) (cI cZ cD : ClassId) (ki pl tu le : Nat → Int32) (ch ca : Nat → UInt64) (N : Nat) (hN : N ≤ 40) (j : Nat) (hj : j < 40) (sz : Nat) : zq_Mi l yX1_kindAt wsX1_kindAt ({ frames := 0, cells := 0, slots := 0, locals := 0 } : Room) (dC, dI) (zq_T cI cZ cD) [.ref (a 1), .int (nI j)] (wLa a cI cZ cD ki pl tu le ch ca (nI N)) (ki j) (wLa a cI cZ cD ki pl tu le ch ca (nI N)) sz := by
  refine Met.ofW (cc := cX1_kindAt) (maxL := 2) (ret := (some .int)) (by decide) rfl ?_
  intro p e s m args below meth c s₁ B hml hv
  obtain ⟨rfl, hsz, hP, hK, hD0⟩ := hv
  have hx := B.exec
  have hb := B.bytes
  have hr := B.returns
  have hts := atoms_spec (ws := wsX1_kindAt) B.pre
  have hown : s.vm.findClass RX1 = some m.cls := findClass_of_methodNamed B.named
  have hlocks := B.notSynchronized
  subst hsz
  have hD := hD0.self (sz := s.heap.size)
  generalize hAe : va_A (wLa a cI cZ cD ki pl tu le ch ca (nI N)) s.heap.size = A at hD ⊢
  have hA : ∀ q : Nat, s.heap.size ≤ q → A q := fun q h => by rw [← hAe]; exact Or.inr h
  have hS : va_S A s.heap s.heap [] := va_S.rf
  have hP : va_P (dC, dI) vwCl (wLa a cI cZ cD ki pl tu le ch ca (nI N)) s.heap := hP
  have hl := lv_entry ([.ref (a 1), .int (nI j)]) (n := 2) (Nat.le_of_ble_eq_true rfl)
  rw [lg_entry_eq]
  generalize (lg_sl ([.ref (a 1), .int (nI j)]) ++ List.replicate (2 - (lg_sl ([.ref (a 1), .int (nI j)])).length) Slot.unset).toArray = ls at hl ⊢
  have hl : lv_has ls 2 [(0, .ref (a 1)), (1, .int (nI j))] := hl
  have hf_9 := hts (.fieldLink RX1 9 "LampRoom$Lamps" "kinds" "[I") (by decide +kernel)
  have hin_1 : ∀ w ∈ wsX10, w ∈ wsX1_kindAt := by decide +kernel
  refine lv_aload_n hx hb dX1_kindAt_0 rfl (lv_at hl 0 rfl) ?_
  refine va_get (D := (dC, dI)) (ci := 1) (v := .ref (a 2)) (C := RX1) (T := TX1) (N := 7) hx hb hts hin_1 hown hK hP 0 rfl rfl 0 (by decide) hf_9 (fun _ h9 => h9) rfl dX1_kindAt_1 ?_
  refine lv_iload_n hx hb dX1_kindAt_4 rfl (lv_at hl 1 rfl) ?_
  refine zq_iald hx hb hK hP 1 0 rfl rfl (j := j) (by omega) (by decide) dX1_kindAt_5 ?_
  exact W.iret (v := ki j) hx hb hr (zq_qi rfl hP hK hD hS) hS.2.2 dX1_kindAt_6

set_option maxHeartbeats 4000000 in
set_option maxRecDepth 100000 in
theorem c_X1_placeAt (l : Launch) (dC : Nat → ClassId) (dI : Nat → Nat → Nat) (a : Nat → Nat) (cI cZ cD : ClassId) (ki pl tu le : Nat → Int32) (ch ca : Nat → UInt64) (N : Nat) (hN : N ≤ 40) (j : Nat) (hj : j < 40) (sz : Nat) : zq_Mi l yX1_placeAt wsX1_placeAt ({ frames := 0, cells := 0, slots := 0, locals := 0 } : Room) (dC, dI) (zq_T cI cZ cD) [.ref (a 1), .int (nI j)] (wLa a cI cZ cD ki pl tu le ch ca (nI N)) (pl j) (wLa a cI cZ cD ki pl tu le ch ca (nI N)) sz := by
  refine Met.ofW (cc := cX1_placeAt) (maxL := 2) (ret := (some .int)) (by decide) rfl ?_
  intro p e s m args below meth c s₁ B hml hv
  obtain ⟨rfl, hsz, hP, hK, hD0⟩ := hv
  have hx := B.exec
  have hb := B.bytes
  have hr := B.returns
  have hts := atoms_spec (ws := wsX1_placeAt) B.pre
  have hown : s.vm.findClass RX1 = some m.cls := findClass_of_methodNamed B.named
  have hlocks := B.notSynchronized
  subst hsz
  have hD := hD0.self (sz := s.heap.size)
  generalize hAe : va_A (wLa a cI cZ cD ki pl tu le ch ca (nI N)) s.heap.size = A at hD ⊢
  have hA : ∀ q : Nat, s.heap.size ≤ q → A q := fun q h => by rw [← hAe]; exact Or.inr h
  have hS : va_S A s.heap s.heap [] := va_S.rf
  have hP : va_P (dC, dI) vwCl (wLa a cI cZ cD ki pl tu le ch ca (nI N)) s.heap := hP
  have hl := lv_entry ([.ref (a 1), .int (nI j)]) (n := 2) (Nat.le_of_ble_eq_true rfl)
  rw [lg_entry_eq]
  generalize (lg_sl ([.ref (a 1), .int (nI j)]) ++ List.replicate (2 - (lg_sl ([.ref (a 1), .int (nI j)])).length) Slot.unset).toArray = ls at hl ⊢
  have hl : lv_has ls 2 [(0, .ref (a 1)), (1, .int (nI j))] := hl
  have hf_15 := hts (.fieldLink RX1 15 "LampRoom$Lamps" "places" "[I") (by decide +kernel)
  have hin_1 : ∀ w ∈ wsX10, w ∈ wsX1_placeAt := by decide +kernel
  refine lv_aload_n hx hb dX1_placeAt_0 rfl (lv_at hl 0 rfl) ?_
  refine va_get (D := (dC, dI)) (ci := 1) (v := .ref (a 3)) (C := RX1) (T := TX1) (N := 7) hx hb hts hin_1 hown hK hP 0 rfl rfl 1 (by decide) hf_15 (fun _ h9 => h9) rfl dX1_placeAt_1 ?_
  refine lv_iload_n hx hb dX1_placeAt_4 rfl (lv_at hl 1 rfl) ?_
  refine zq_iald hx hb hK hP 2 0 rfl rfl (j := j) (by omega) (by decide) dX1_placeAt_5 ?_
  exact W.iret (v := pl j) hx hb hr (zq_qi rfl hP hK hD hS) hS.2.2 dX1_placeAt_6

set_option maxHeartbeats 4000000 in
set_option maxRecDepth 100000 in
theorem c_X1_turnsAt (l : Launch) (dC : Nat → ClassId) (dI : Nat → Nat → Nat) (a : Nat → Nat) (cI cZ cD : ClassId) (ki pl tu le : Nat → Int32) (ch ca : Nat → UInt64) (N : Nat) (hN : N ≤ 40) (j : Nat) (hj : j < 40) (sz : Nat) : zq_Mi l yX1_turnsAt wsX1_turnsAt ({ frames := 0, cells := 0, slots := 0, locals := 0 } : Room) (dC, dI) (zq_T cI cZ cD) [.ref (a 1), .int (nI j)] (wLa a cI cZ cD ki pl tu le ch ca (nI N)) (tu j) (wLa a cI cZ cD ki pl tu le ch ca (nI N)) sz := by
  refine Met.ofW (cc := cX1_turnsAt) (maxL := 2) (ret := (some .int)) (by decide) rfl ?_
  intro p e s m args below meth c s₁ B hml hv
  obtain ⟨rfl, hsz, hP, hK, hD0⟩ := hv
  have hx := B.exec
  have hb := B.bytes
  have hr := B.returns
  have hts := atoms_spec (ws := wsX1_turnsAt) B.pre
  have hown : s.vm.findClass RX1 = some m.cls := findClass_of_methodNamed B.named
  have hlocks := B.notSynchronized
  subst hsz
  have hD := hD0.self (sz := s.heap.size)
  generalize hAe : va_A (wLa a cI cZ cD ki pl tu le ch ca (nI N)) s.heap.size = A at hD ⊢
  have hA : ∀ q : Nat, s.heap.size ≤ q → A q := fun q h => by rw [← hAe]; exact Or.inr h
  have hS : va_S A s.heap s.heap [] := va_S.rf
  have hP : va_P (dC, dI) vwCl (wLa a cI cZ cD ki pl tu le ch ca (nI N)) s.heap := hP
  have hl := lv_entry ([.ref (a 1), .int (nI j)]) (n := 2) (Nat.le_of_ble_eq_true rfl)
  rw [lg_entry_eq]
  generalize (lg_sl ([.ref (a 1), .int (nI j)]) ++ List.replicate (2 - (lg_sl ([.ref (a 1), .int (nI j)])).length) Slot.unset).toArray = ls at hl ⊢
  have hl : lv_has ls 2 [(0, .ref (a 1)), (1, .int (nI j))] := hl
  have hf_18 := hts (.fieldLink RX1 18 "LampRoom$Lamps" "turns" "[I") (by decide +kernel)
  have hin_1 : ∀ w ∈ wsX10, w ∈ wsX1_turnsAt := by decide +kernel
  refine lv_aload_n hx hb dX1_turnsAt_0 rfl (lv_at hl 0 rfl) ?_
  refine va_get (D := (dC, dI)) (ci := 1) (v := .ref (a 4)) (C := RX1) (T := TX1) (N := 7) hx hb hts hin_1 hown hK hP 0 rfl rfl 2 (by decide) hf_18 (fun _ h9 => h9) rfl dX1_turnsAt_1 ?_
  refine lv_iload_n hx hb dX1_turnsAt_4 rfl (lv_at hl 1 rfl) ?_
  refine zq_iald hx hb hK hP 3 0 rfl rfl (j := j) (by omega) (by decide) dX1_turnsAt_5 ?_
  exact W.iret (v := tu j) hx hb hr (zq_qi rfl hP hK hD hS) hS.2.2 dX1_turnsAt_6

set_option maxHeartbeats 4000000 in
set_option maxRecDepth 100000 in
theorem c_X1_chargeAt (l : Launch) (dC : Nat → ClassId) (dI : Nat → Nat → Nat) (a : Nat → Nat) (cI cZ cD : ClassId) (ki pl tu le : Nat → Int32) (ch ca : Nat → UInt64) (N : Nat) (hN : N ≤ 40) (j : Nat) (hj : j < 40) (sz : Nat) : zq_Md l yX1_chargeAt wsX1_chargeAt ({ frames := 0, cells := 0, slots := 0, locals := 0 } : Room) (dC, dI) (zq_T cI cZ cD) [.ref (a 1), .int (nI j)] (wLa a cI cZ cD ki pl tu le ch ca (nI N)) (ch j) (wLa a cI cZ cD ki pl tu le ch ca (nI N)) sz := by
  refine Met.ofW (cc := cX1_chargeAt) (maxL := 2) (ret := (some .double)) (by decide) rfl ?_
  intro p e s m args below meth c s₁ B hml hv
  obtain ⟨rfl, hsz, hP, hK, hD0⟩ := hv
  have hx := B.exec
  have hb := B.bytes
  have hr := B.returns
  have hts := atoms_spec (ws := wsX1_chargeAt) B.pre
  have hown : s.vm.findClass RX1 = some m.cls := findClass_of_methodNamed B.named
  have hlocks := B.notSynchronized
  subst hsz
  have hD := hD0.self (sz := s.heap.size)
  generalize hAe : va_A (wLa a cI cZ cD ki pl tu le ch ca (nI N)) s.heap.size = A at hD ⊢
  have hA : ∀ q : Nat, s.heap.size ≤ q → A q := fun q h => by rw [← hAe]; exact Or.inr h
  have hS : va_S A s.heap s.heap [] := va_S.rf
  have hP : va_P (dC, dI) vwCl (wLa a cI cZ cD ki pl tu le ch ca (nI N)) s.heap := hP
  have hl := lv_entry ([.ref (a 1), .int (nI j)]) (n := 2) (Nat.le_of_ble_eq_true rfl)
  rw [lg_entry_eq]
  generalize (lg_sl ([.ref (a 1), .int (nI j)]) ++ List.replicate (2 - (lg_sl ([.ref (a 1), .int (nI j)])).length) Slot.unset).toArray = ls at hl ⊢
  have hl : lv_has ls 2 [(0, .ref (a 1)), (1, .int (nI j))] := hl
  have hf_25 := hts (.fieldLink RX1 25 "LampRoom$Lamps" "charges" "[D") (by decide +kernel)
  have hin_1 : ∀ w ∈ wsX10, w ∈ wsX1_chargeAt := by decide +kernel
  refine lv_aload_n hx hb dX1_chargeAt_0 rfl (lv_at hl 0 rfl) ?_
  refine va_get (D := (dC, dI)) (ci := 1) (v := .ref (a 6)) (C := RX1) (T := TX1) (N := 7) hx hb hts hin_1 hown hK hP 0 rfl rfl 4 (by decide) hf_25 (fun _ h9 => h9) rfl dX1_chargeAt_1 ?_
  refine lv_iload_n hx hb dX1_chargeAt_4 rfl (lv_at hl 1 rfl) ?_
  refine zq_dald hx hb hK hP 5 2 rfl rfl (j := j) (by omega) (by decide) dX1_chargeAt_5 ?_
  exact W.dret (v := ch j) hx hb hr (zq_qd rfl hP hK hD hS) hS.2.2 dX1_chargeAt_6

set_option maxHeartbeats 4000000 in
set_option maxRecDepth 100000 in
theorem c_X1_capacityAt (l : Launch) (dC : Nat → ClassId) (dI : Nat → Nat → Nat) (a : Nat → Nat) (cI cZ cD : ClassId) (ki pl tu le : Nat → Int32) (ch ca : Nat → UInt64) (N : Nat) (hN : N ≤ 40) (j : Nat) (hj : j < 40) (sz : Nat) : zq_Md l yX1_capacityAt wsX1_capacityAt ({ frames := 0, cells := 0, slots := 0, locals := 0 } : Room) (dC, dI) (zq_T cI cZ cD) [.ref (a 1), .int (nI j)] (wLa a cI cZ cD ki pl tu le ch ca (nI N)) (ca j) (wLa a cI cZ cD ki pl tu le ch ca (nI N)) sz := by
  refine Met.ofW (cc := cX1_capacityAt) (maxL := 2) (ret := (some .double)) (by decide) rfl ?_
  intro p e s m args below meth c s₁ B hml hv
  obtain ⟨rfl, hsz, hP, hK, hD0⟩ := hv
  have hx := B.exec
  have hb := B.bytes
  have hr := B.returns
  have hts := atoms_spec (ws := wsX1_capacityAt) B.pre
  have hown : s.vm.findClass RX1 = some m.cls := findClass_of_methodNamed B.named
  have hlocks := B.notSynchronized
  subst hsz
  have hD := hD0.self (sz := s.heap.size)
  generalize hAe : va_A (wLa a cI cZ cD ki pl tu le ch ca (nI N)) s.heap.size = A at hD ⊢
  have hA : ∀ q : Nat, s.heap.size ≤ q → A q := fun q h => by rw [← hAe]; exact Or.inr h
  have hS : va_S A s.heap s.heap [] := va_S.rf
  have hP : va_P (dC, dI) vwCl (wLa a cI cZ cD ki pl tu le ch ca (nI N)) s.heap := hP
  have hl := lv_entry ([.ref (a 1), .int (nI j)]) (n := 2) (Nat.le_of_ble_eq_true rfl)
  rw [lg_entry_eq]
  generalize (lg_sl ([.ref (a 1), .int (nI j)]) ++ List.replicate (2 - (lg_sl ([.ref (a 1), .int (nI j)])).length) Slot.unset).toArray = ls at hl ⊢
  have hl : lv_has ls 2 [(0, .ref (a 1)), (1, .int (nI j))] := hl
  have hf_29 := hts (.fieldLink RX1 29 "LampRoom$Lamps" "capacities" "[D") (by decide +kernel)
  have hin_1 : ∀ w ∈ wsX10, w ∈ wsX1_capacityAt := by decide +kernel
  refine lv_aload_n hx hb dX1_capacityAt_0 rfl (lv_at hl 0 rfl) ?_
  refine va_get (D := (dC, dI)) (ci := 1) (v := .ref (a 7)) (C := RX1) (T := TX1) (N := 7) hx hb hts hin_1 hown hK hP 0 rfl rfl 5 (by decide) hf_29 (fun _ h9 => h9) rfl dX1_capacityAt_1 ?_
  refine lv_iload_n hx hb dX1_capacityAt_4 rfl (lv_at hl 1 rfl) ?_
  refine zq_dald hx hb hK hP 6 2 rfl rfl (j := j) (by omega) (by decide) dX1_capacityAt_5 ?_
  exact W.dret (v := ca j) hx hb hr (zq_qd rfl hP hK hD hS) hS.2.2 dX1_capacityAt_6

set_option maxHeartbeats 4000000 in
set_option maxRecDepth 100000 in
theorem c_X1_newCapacity (l : Launch) (k : Int32) : zq_Sd l yX1_newCapacity wsX1_newCapacity ({ frames := 0, cells := 0, slots := 0, locals := 0 } : Room) [.int k] (la_new k) := by
  refine Met.ofW (cc := cX1_newCapacity) (maxL := 1) (ret := (some .double)) (by decide) rfl ?_
  intro p e s m args below meth c s₁ B hml hv
  obtain ⟨rfl, -⟩ := hv
  have hx := B.exec
  have hb := B.bytes
  have hr := B.returns
  have hts := atoms_spec (ws := wsX1_newCapacity) B.pre
  have hown : s.vm.findClass RX1 = some m.cls := findClass_of_methodNamed B.named
  have hlocks := B.notSynchronized
  have hS : va_S (fun _ => False) s.heap s.heap [] := va_S.rf
  have hl := lv_entry ([.int k]) (n := 1) (Nat.le_of_ble_eq_true rfl)
  rw [lg_entry_eq]
  generalize (lg_sl ([.int k]) ++ List.replicate (1 - (lg_sl ([.int k])).length) Slot.unset).toArray = ls at hl ⊢
  have hl : lv_has ls 1 [(0, .int k)] := hl
  have hc_64 := hts (.constantDouble RX1 64 (4626322717216342016)) (by decide +kernel)
  have hc_62 := hts (.constantDouble RX1 62 (4625196817309499392)) (by decide +kernel)
  have hc_60 := hts (.constantDouble RX1 60 (4622945017495814144)) (by decide +kernel)
  refine lv_iload_n hx hb dX1_newCapacity_0 rfl (lv_at hl 0 rfl) ?_
  refine lv_if_ne (tgt := 10) hx hb dX1_newCapacity_1 (by decide) (fun c_0 => ?_) (fun c_0 => ?_)
  · refine lv_iload_n hx hb dX1_newCapacity_10 rfl (lv_at hl 0 rfl) ?_
    refine lv_iconst (v := 1) hx hb dX1_newCapacity_11 (by decide) ?_
    refine lv_icmp_ne (tgt := 21) hx hb dX1_newCapacity_12 (by decide) (fun c_1 => ?_) (fun c_1 => ?_)
    · refine lv_ldc2d hx hb hown hc_64 dX1_newCapacity_21 ?_
      exact W.dret (v := 4626322717216342016) hx hb hr (fun t ht hW => ⟨⟨_, (), rfl, (by first | with_reducible rfl | simp [la_new, c_0, c_1]), trivial⟩, hS.F ht⟩) (fun q hq => (hS.2.2 q hq).elim) dX1_newCapacity_24
    · refine lv_ldc2d hx hb hown hc_62 dX1_newCapacity_15 ?_
      refine lv_goto (tgt := 24) hx hb dX1_newCapacity_18 (by decide) ?_
      exact W.dret (v := 4625196817309499392) hx hb hr (fun t ht hW => ⟨⟨_, (), rfl, (by first | with_reducible rfl | simp [la_new, c_0, c_1]), trivial⟩, hS.F ht⟩) (fun q hq => (hS.2.2 q hq).elim) dX1_newCapacity_24
  · refine lv_ldc2d hx hb hown hc_60 dX1_newCapacity_4 ?_
    refine lv_goto (tgt := 24) hx hb dX1_newCapacity_7 (by decide) ?_
    exact W.dret (v := 4622945017495814144) hx hb hr (fun t ht hW => ⟨⟨_, (), rfl, (by first | with_reducible rfl | simp [la_new, c_0]), trivial⟩, hS.F ht⟩) (fun q hq => (hS.2.2 q hq).elim) dX1_newCapacity_24

set_option maxHeartbeats 4000000 in
set_option maxRecDepth 100000 in
theorem c_X1_isIssuable (l : Launch) (dC : Nat → ClassId) (dI : Nat → Nat → Nat) (a : Nat → Nat) (cI cZ cD : ClassId) (ki pl tu le : Nat → Int32) (ch ca : Nat → UInt64) (N : Nat) (hN : N ≤ 40) (j : Nat) (hj : j < 40) (k : Int32) (sz : Nat) : zq_Mi l yX1_isIssuable wsX1_isIssuable ({ frames := 0, cells := 0, slots := 0, locals := 0 } : Room) (dC, dI) (zq_T cI cZ cD) [.ref (a 1), .int (nI j), .int k] (wLa a cI cZ cD ki pl tu le ch ca (nI N)) (zb (la_is ki pl ch k j)) (wLa a cI cZ cD ki pl tu le ch ca (nI N)) sz := by
  refine Met.ofW (cc := cX1_isIssuable) (maxL := 3) (ret := (some .boolean)) (by decide) rfl ?_
  intro p e s m args below meth c s₁ B hml hv
  obtain ⟨rfl, hsz, hP, hK, hD0⟩ := hv
  have hx := B.exec
  have hb := B.bytes
  have hr := B.returns
  have hts := atoms_spec (ws := wsX1_isIssuable) B.pre
  have hown : s.vm.findClass RX1 = some m.cls := findClass_of_methodNamed B.named
  have hlocks := B.notSynchronized
  subst hsz
  have hD := hD0.self (sz := s.heap.size)
  generalize hAe : va_A (wLa a cI cZ cD ki pl tu le ch ca (nI N)) s.heap.size = A at hD ⊢
  have hA : ∀ q : Nat, s.heap.size ≤ q → A q := fun q h => by rw [← hAe]; exact Or.inr h
  have hS : va_S A s.heap s.heap [] := va_S.rf
  have hP : va_P (dC, dI) vwCl (wLa a cI cZ cD ki pl tu le ch ca (nI N)) s.heap := hP
  have hl := lv_entry ([.ref (a 1), .int (nI j), .int k]) (n := 3) (Nat.le_of_ble_eq_true rfl)
  rw [lg_entry_eq]
  generalize (lg_sl ([.ref (a 1), .int (nI j), .int k]) ++ List.replicate (3 - (lg_sl ([.ref (a 1), .int (nI j), .int k])).length) Slot.unset).toArray = ls at hl ⊢
  have hl : lv_has ls 3 [(0, .ref (a 1)), (1, .int (nI j)), (2, .int k)] := hl
  have hf_9 := hts (.fieldLink RX1 9 "LampRoom$Lamps" "kinds" "[I") (by decide +kernel)
  have hin_1 : ∀ w ∈ wsX10, w ∈ wsX1_isIssuable := by decide +kernel
  have hf_15 := hts (.fieldLink RX1 15 "LampRoom$Lamps" "places" "[I") (by decide +kernel)
  have hf_25 := hts (.fieldLink RX1 25 "LampRoom$Lamps" "charges" "[D") (by decide +kernel)
  have hc_52 := hts (.constantDouble RX1 52 (4621256167635550208)) (by decide +kernel)
  refine lv_aload_n hx hb dX1_isIssuable_0 rfl (lv_at hl 0 rfl) ?_
  refine va_get (D := (dC, dI)) (ci := 1) (v := .ref (a 2)) (C := RX1) (T := TX1) (N := 7) hx hb hts hin_1 hown hK hP 0 rfl rfl 0 (by decide) hf_9 (fun _ h9 => h9) rfl dX1_isIssuable_1 ?_
  refine lv_iload_n hx hb dX1_isIssuable_4 rfl (lv_at hl 1 rfl) ?_
  refine zq_iald hx hb hK hP 1 0 rfl rfl (j := j) (by omega) (by decide) dX1_isIssuable_5 ?_
  refine lv_iload_n hx hb dX1_isIssuable_6 rfl (lv_at hl 2 rfl) ?_
  refine lv_icmp_ne (tgt := 36) hx hb dX1_isIssuable_7 (by decide) (fun c_0 => ?_) (fun c_0 => ?_)
  · refine lv_iconst (v := 0) hx hb dX1_isIssuable_36 (by decide) ?_
    exact W.zret (v := 0) hx hb hr (by rfl) (zq_qi (by first | with_reducible rfl | simp [zb, la_is, la_rd, la_ge9, c_0]) hP hK hD hS) hS.2.2 dX1_isIssuable_37
  · refine lv_aload_n hx hb dX1_isIssuable_10 rfl (lv_at hl 0 rfl) ?_
    refine va_get (D := (dC, dI)) (ci := 1) (v := .ref (a 3)) (C := RX1) (T := TX1) (N := 7) hx hb hts hin_1 hown hK hP 0 rfl rfl 1 (by decide) hf_15 (fun _ h9 => h9) rfl dX1_isIssuable_11 ?_
    refine lv_iload_n hx hb dX1_isIssuable_14 rfl (lv_at hl 1 rfl) ?_
    refine zq_iald hx hb hK hP 2 0 rfl rfl (j := j) (by omega) (by decide) dX1_isIssuable_15 ?_
    refine lv_if_ne (tgt := 36) hx hb dX1_isIssuable_16 (by decide) (fun c_1 => ?_) (fun c_1 => ?_)
    · refine lv_iconst (v := 0) hx hb dX1_isIssuable_36 (by decide) ?_
      exact W.zret (v := 0) hx hb hr (by rfl) (zq_qi (by first | with_reducible rfl | simp [zb, la_is, la_rd, la_ge9, c_0, c_1]) hP hK hD hS) hS.2.2 dX1_isIssuable_37
    · refine lv_aload_n hx hb dX1_isIssuable_19 rfl (lv_at hl 0 rfl) ?_
      refine va_get (D := (dC, dI)) (ci := 1) (v := .ref (a 6)) (C := RX1) (T := TX1) (N := 7) hx hb hts hin_1 hown hK hP 0 rfl rfl 4 (by decide) hf_25 (fun _ h9 => h9) rfl dX1_isIssuable_20 ?_
      refine lv_iload_n hx hb dX1_isIssuable_23 rfl (lv_at hl 1 rfl) ?_
      refine zq_dald hx hb hK hP 5 2 rfl rfl (j := j) (by omega) (by decide) dX1_isIssuable_24 ?_
      refine lv_ldc2d hx hb hown hc_52 dX1_isIssuable_25 ?_
      refine lv_dcmp hx hb dX1_isIssuable_28 ?_
      refine lv_if_lt (tgt := 36) hx hb dX1_isIssuable_29 (by decide) (fun c_2 => ?_) (fun c_2 => ?_)
      · refine lv_iconst (v := 0) hx hb dX1_isIssuable_36 (by decide) ?_
        exact W.zret (v := 0) hx hb hr (by rfl) (zq_qi (by first | with_reducible rfl | simp [zb, la_is, la_rd, la_ge9, c_0, c_1, c_2]) hP hK hD hS) hS.2.2 dX1_isIssuable_37
      · refine lv_iconst (v := 1) hx hb dX1_isIssuable_32 (by decide) ?_
        refine lv_goto (tgt := 37) hx hb dX1_isIssuable_33 (by decide) ?_
        exact W.zret (v := 1) hx hb hr (by rfl) (zq_qi (by first | with_reducible rfl | simp [zb, la_is, la_rd, la_ge9, c_0, c_1, c_2]) hP hK hD hS) hS.2.2 dX1_isIssuable_37

set_option maxHeartbeats 4000000 in
set_option maxRecDepth 100000 in
theorem c_X1_countIssuable (l : Launch) (dC : Nat → ClassId) (dI : Nat → Nat → Nat) (a : Nat → Nat) (cI cZ cD : ClassId) (ki pl tu le : Nat → Int32) (ch ca : Nat → UInt64) (N : Nat) (hN : N ≤ 40) (k : Int32) (sz : Nat) : zq_Mi l yX1_countIssuable wsX1_countIssuable ({ frames := 1, cells := 0, slots := 0, locals := 22 } : Room) (dC, dI) (zq_T cI cZ cD) [.ref (a 1), .int k] (wLa a cI cZ cD ki pl tu le ch ca (nI N)) (nI (zf_cnt (la_is ki pl ch k) N)) (wLa a cI cZ cD ki pl tu le ch ca (nI N)) sz := by
  refine Met.ofW (cc := cX1_countIssuable) (maxL := 4) (ret := (some .int)) (by decide) rfl ?_
  intro p e s m args below meth c s₁ B hml hv
  obtain ⟨rfl, hsz, hP, hK, hD0⟩ := hv
  have hx := B.exec
  have hb := B.bytes
  have hr := B.returns
  have hts := atoms_spec (ws := wsX1_countIssuable) B.pre
  have hown : s.vm.findClass RX1 = some m.cls := findClass_of_methodNamed B.named
  have hlocks := B.notSynchronized
  subst hsz
  have hD := hD0.self (sz := s.heap.size)
  generalize hAe : va_A (wLa a cI cZ cD ki pl tu le ch ca (nI N)) s.heap.size = A at hD ⊢
  have hA : ∀ q : Nat, s.heap.size ≤ q → A q := fun q h => by rw [← hAe]; exact Or.inr h
  have hS : va_S A s.heap s.heap [] := va_S.rf
  have hP : va_P (dC, dI) vwCl (wLa a cI cZ cD ki pl tu le ch ca (nI N)) s.heap := hP
  have hl := lv_entry ([.ref (a 1), .int k]) (n := 4) (Nat.le_of_ble_eq_true rfl)
  rw [lg_entry_eq]
  generalize (lg_sl ([.ref (a 1), .int k]) ++ List.replicate (4 - (lg_sl ([.ref (a 1), .int k])).length) Slot.unset).toArray = ls at hl ⊢
  have hl : lv_has ls 4 [(0, .ref (a 1)), (1, .int k)] := hl
  have hf_32 := hts (.fieldLink RX1 32 "LampRoom$Lamps" "count" "I") (by decide +kernel)
  have hin_1 : ∀ w ∈ wsX10, w ∈ wsX1_countIssuable := by decide +kernel
  refine lv_iconst (v := 0) hx hb dX1_countIssuable_0 (by decide) ?_
  refine lv_istore_n (lv' := [(2, .int 0), (0, .ref (a 1)), (1, .int k)]) hx hb dX1_countIssuable_1 rfl hl (by decide) rfl (fun ls hl => ?_)
  refine lv_iconst (v := 0) hx hb dX1_countIssuable_2 (by decide) ?_
  refine lv_istore_n (lv' := [(3, .int 0), (2, .int 0), (0, .ref (a 1)), (1, .int k)]) hx hb dX1_countIssuable_3 rfl hl (by decide) rfl (fun ls hl => ?_)
  refine zq_loop 4 N (fun i H locs ls => va_P (dC, dI) vwCl (wLa a cI cZ cD ki pl tu le ch ca (nI N)) H ∧ va_D A (wLa a cI cZ cD ki pl tu le ch ca (nI N)) ∧ va_S A s.heap H locs ∧ lv_has ls 4 [(2, .int (nI (zf_cnt (la_is ki pl ch k) i))), (3, .int (nI i)), (0, .ref (a 1)), (1, .int k)]) ?_ 0 (by omega) _ _ _ ⟨hP, hD, hS, lv_sub hl [1, 0, 2, 3] rfl⟩
  intro i hi_i ih_i H locs ls hh
  obtain ⟨hP, hD, hS, hl⟩ := hh
  refine lv_iload_n hx hb dX1_countIssuable_4 rfl (lv_at hl 1 rfl) ?_
  refine lv_aload_n hx hb dX1_countIssuable_5 rfl (lv_at hl 2 rfl) ?_
  refine va_get (D := (dC, dI)) (ci := 1) (v := .int (nI N)) (C := RX1) (T := TX1) (N := 7) hx hb hts hin_1 hown hK hP 0 rfl rfl 6 (by decide) hf_32 (fun _ h9 => h9) rfl dX1_countIssuable_6 ?_
  refine lv_icmp_ge (tgt := 30) hx hb dX1_countIssuable_9 (by decide) (fun c_0 => ?_) (fun c_0 => ?_)
  · have d_0 := (nI_leI (a := N) (b := i) (by omega) (by omega)).mp c_0
    have ei_i : i = N := by omega
    refine lv_iload_n hx hb dX1_countIssuable_30 rfl (lv_at hl 0 rfl) ?_
    exact W.iret (v := nI (zf_cnt (la_is ki pl ch k) i)) hx hb hr (zq_qi (by first | with_reducible rfl | simp [d_0, ei_i]) hP hK hD hS) hS.2.2 dX1_countIssuable_31
  · have d_0 := Nat.not_le.mp (fun h => c_0 ((nI_leI (a := N) (b := i) (by omega) (by omega)).mpr h))
    refine lv_aload_n hx hb dX1_countIssuable_12 rfl (lv_at hl 2 rfl) ?_
    refine lv_iload_n hx hb dX1_countIssuable_13 rfl (lv_at hl 1 rfl) ?_
    refine lv_iload_n hx hb dX1_countIssuable_14 rfl (lv_at hl 3 rfl) ?_
    refine zq_cVi (As := [.int (nI i), .int k]) (rest := []) (wc := (wLa a cI cZ cD ki pl tu le ch ca (nI N))) (w1 := (wLa a cI cZ cD ki pl tu le ch ca (nI N))) (wr := ([] : va_W)) (ws' := (wLa a cI cZ cD ki pl tu le ch ca (nI N))) ⟨hx, hb, hml, hown, hts⟩ (c_X1_isIssuable l dC dI a cI cZ cD ki pl tu le ch ca N (by omega) i (by omega) k H.size) (cwV 2 hts gX1_countIssuable_X1_isIssuable rfl rfl rfl (by decide +kernel) ⟨Nat.le_of_ble_eq_true rfl, Nat.le_of_ble_eq_true rfl⟩) hK hP hD hS hA [0, 1, 2, 3, 4, 5, 6] [] [0, 1, 2, 3, 4, 5, 6] rfl rfl rfl rfl (by decide) rfl rfl (ci := 1) rfl 0 rfl rfl hl.1 rfl (Nat.le_of_ble_eq_true rfl) dX1_countIssuable_15 ⟨Nat.zero_le _, Nat.zero_le _⟩ (fun H locs hP hD hS => ?_)
    refine lv_if_eq (tgt := 24) hx hb dX1_countIssuable_18 (by decide) (fun c_1 => ?_) (fun c_1 => ?_)
    · have d_1 := zb_eq c_1
      refine lv_iinc (v := nI (i + 1)) (lv' := [(3, .int (nI (i + 1))), (2, .int (nI (zf_cnt (la_is ki pl ch k) i))), (0, .ref (a 1)), (1, .int k)]) hx hb dX1_countIssuable_24 hl (k := 1) rfl (nI_add _ 1) (by decide) rfl (fun ls hl => ?_)
      refine lv_goto (tgt := 4) hx hb dX1_countIssuable_27 (by decide) ?_
      have e_2 : (nI (zf_cnt (la_is ki pl ch k) (i + 1))) = (nI (zf_cnt (la_is ki pl ch k) i)) := by rw [zf_cnt_f d_1]
      exact ih_i _ _ _ (by omega) ⟨(by (try rw [e_2]); exact hP), (by (try rw [e_2]); exact hD), hS, (by (try rw [e_2]); exact lv_sub hl [1, 0, 2, 3] rfl)⟩
    · have d_1 := zb_ne c_1
      refine lv_iinc (v := nI ((zf_cnt (la_is ki pl ch k) i) + 1)) (lv' := [(2, .int (nI ((zf_cnt (la_is ki pl ch k) i) + 1))), (3, .int (nI i)), (0, .ref (a 1)), (1, .int k)]) hx hb dX1_countIssuable_21 hl (k := 0) rfl (nI_add _ 1) (by decide) rfl (fun ls hl => ?_)
      refine lv_iinc (v := nI (i + 1)) (lv' := [(3, .int (nI (i + 1))), (2, .int (nI ((zf_cnt (la_is ki pl ch k) i) + 1))), (0, .ref (a 1)), (1, .int k)]) hx hb dX1_countIssuable_24 hl (k := 1) rfl (nI_add _ 1) (by decide) rfl (fun ls hl => ?_)
      refine lv_goto (tgt := 4) hx hb dX1_countIssuable_27 (by decide) ?_
      have e_3 : (nI (zf_cnt (la_is ki pl ch k) (i + 1))) = (nI ((zf_cnt (la_is ki pl ch k) i) + 1)) := by rw [zf_cnt_t d_1]
      exact ih_i _ _ _ (by omega) ⟨(by (try rw [e_3]); exact hP), (by (try rw [e_3]); exact hD), hS, (by (try rw [e_3]); exact lv_sub hl [1, 0, 2, 3] rfl)⟩

set_option maxHeartbeats 4000000 in
set_option maxRecDepth 100000 in
theorem c_X1_hangNew (l : Launch) (dC : Nat → ClassId) (dI : Nat → Nat → Nat) (a : Nat → Nat) (cI cZ cD : ClassId) (ki pl tu le : Nat → Int32) (ch ca : Nat → UInt64) (N : Nat) (hN : N ≤ 40) (k : Int32) (hN1 : N < 40) (sz : Nat) : zq_Mi l yX1_hangNew wsX1_hangNew ({ frames := 1, cells := 0, slots := 0, locals := 20 } : Room) (dC, dI) (zq_T cI cZ cD) [.ref (a 1), .int k] (wLa a cI cZ cD ki pl tu le ch ca (nI N)) (nI N) (wLa a cI cZ cD (upd ki N k) (upd pl N 0) tu le (vf_upd ch N (la_new k)) (vf_upd ca N (la_new k)) (nI (N + 1))) sz := by
  refine Met.ofW (cc := cX1_hangNew) (maxL := 3) (ret := (some .int)) (by decide) rfl ?_
  intro p e s m args below meth c s₁ B hml hv
  obtain ⟨rfl, hsz, hP, hK, hD0⟩ := hv
  have hx := B.exec
  have hb := B.bytes
  have hr := B.returns
  have hts := atoms_spec (ws := wsX1_hangNew) B.pre
  have hown : s.vm.findClass RX1 = some m.cls := findClass_of_methodNamed B.named
  have hlocks := B.notSynchronized
  subst hsz
  have hD := hD0.self (sz := s.heap.size)
  generalize hAe : va_A (wLa a cI cZ cD ki pl tu le ch ca (nI N)) s.heap.size = A at hD ⊢
  have hA : ∀ q : Nat, s.heap.size ≤ q → A q := fun q h => by rw [← hAe]; exact Or.inr h
  have hS : va_S A s.heap s.heap [] := va_S.rf
  have hP : va_P (dC, dI) vwCl (wLa a cI cZ cD ki pl tu le ch ca (nI N)) s.heap := hP
  have hl := lv_entry ([.ref (a 1), .int k]) (n := 3) (Nat.le_of_ble_eq_true rfl)
  rw [lg_entry_eq]
  generalize (lg_sl ([.ref (a 1), .int k]) ++ List.replicate (3 - (lg_sl ([.ref (a 1), .int k])).length) Slot.unset).toArray = ls at hl ⊢
  have hl : lv_has ls 3 [(0, .ref (a 1)), (1, .int k)] := hl
  have hf_32 := hts (.fieldLink RX1 32 "LampRoom$Lamps" "count" "I") (by decide +kernel)
  have hin_1 : ∀ w ∈ wsX10, w ∈ wsX1_hangNew := by decide +kernel
  have hf_9 := hts (.fieldLink RX1 9 "LampRoom$Lamps" "kinds" "[I") (by decide +kernel)
  have hf_15 := hts (.fieldLink RX1 15 "LampRoom$Lamps" "places" "[I") (by decide +kernel)
  have hf_29 := hts (.fieldLink RX1 29 "LampRoom$Lamps" "capacities" "[D") (by decide +kernel)
  have hf_25 := hts (.fieldLink RX1 25 "LampRoom$Lamps" "charges" "[D") (by decide +kernel)
  refine lv_aload_n hx hb dX1_hangNew_0 rfl (lv_at hl 0 rfl) ?_
  refine va_get (D := (dC, dI)) (ci := 1) (v := .int (nI N)) (C := RX1) (T := TX1) (N := 7) hx hb hts hin_1 hown hK hP 0 rfl rfl 6 (by decide) hf_32 (fun _ h9 => h9) rfl dX1_hangNew_1 ?_
  refine lv_istore_n (lv' := [(2, .int (nI N)), (0, .ref (a 1)), (1, .int k)]) hx hb dX1_hangNew_4 rfl hl (by decide) rfl (fun ls hl => ?_)
  refine lv_aload_n hx hb dX1_hangNew_5 rfl (lv_at hl 1 rfl) ?_
  refine va_get (D := (dC, dI)) (ci := 1) (v := .ref (a 2)) (C := RX1) (T := TX1) (N := 7) hx hb hts hin_1 hown hK hP 0 rfl rfl 0 (by decide) hf_9 (fun _ h9 => h9) rfl dX1_hangNew_6 ?_
  refine lv_iload_n hx hb dX1_hangNew_9 rfl (lv_at hl 0 rfl) ?_
  refine lv_iload_n hx hb dX1_hangNew_10 rfl (lv_at hl 2 rfl) ?_
  refine zq_iast hx hb hK hP hD hS 1 0 rfl rfl (j := N) (by omega) (by decide) (wLa a cI cZ cD (upd ki N k) pl tu le ch ca (nI N)) rfl dX1_hangNew_11 (fun H locs hP hD hS => ?_)
  refine lv_aload_n hx hb dX1_hangNew_12 rfl (lv_at hl 1 rfl) ?_
  refine va_get (D := (dC, dI)) (ci := 1) (v := .ref (a 3)) (C := RX1) (T := TX1) (N := 7) hx hb hts hin_1 hown hK hP 0 rfl rfl 1 (by decide) hf_15 (fun _ h9 => h9) rfl dX1_hangNew_13 ?_
  refine lv_iload_n hx hb dX1_hangNew_16 rfl (lv_at hl 0 rfl) ?_
  refine lv_iconst (v := 0) hx hb dX1_hangNew_17 (by decide) ?_
  refine zq_iast hx hb hK hP hD hS 2 0 rfl rfl (j := N) (by omega) (by decide) (wLa a cI cZ cD (upd ki N k) (upd pl N 0) tu le ch ca (nI N)) rfl dX1_hangNew_18 (fun H locs hP hD hS => ?_)
  refine lv_aload_n hx hb dX1_hangNew_19 rfl (lv_at hl 1 rfl) ?_
  refine va_get (D := (dC, dI)) (ci := 1) (v := .ref (a 7)) (C := RX1) (T := TX1) (N := 7) hx hb hts hin_1 hown hK hP 0 rfl rfl 5 (by decide) hf_29 (fun _ h9 => h9) rfl dX1_hangNew_20 ?_
  refine lv_iload_n hx hb dX1_hangNew_23 rfl (lv_at hl 0 rfl) ?_
  refine lv_iload_n hx hb dX1_hangNew_24 rfl (lv_at hl 2 rfl) ?_
  refine zq_cSd (As := [.int k]) (rest := [.int (nI N), .ref (a 7)]) ⟨hx, hb, hml, hown, hts⟩ (c_X1_newCapacity l k) (va_cwS 1 hts gX1_hangNew_X1_newCapacity rfl rfl rfl (by decide +kernel) ⟨Nat.le_of_ble_eq_true rfl, Nat.le_of_ble_eq_true rfl⟩) hP hS rfl hl.1 rfl (Nat.le_of_ble_eq_true rfl) dX1_hangNew_25 ⟨Nat.zero_le _, Nat.zero_le _⟩ (fun H locs hP hS => ?_)
  refine zq_dast hx hb hK hP hD hS 6 2 rfl rfl (j := N) (by omega) (by decide) (wLa a cI cZ cD (upd ki N k) (upd pl N 0) tu le ch (vf_upd ca N (la_new k)) (nI N)) rfl dX1_hangNew_28 (fun H locs hP hD hS => ?_)
  refine lv_aload_n hx hb dX1_hangNew_29 rfl (lv_at hl 1 rfl) ?_
  refine va_get (D := (dC, dI)) (ci := 1) (v := .ref (a 6)) (C := RX1) (T := TX1) (N := 7) hx hb hts hin_1 hown hK hP 0 rfl rfl 4 (by decide) hf_25 (fun _ h9 => h9) rfl dX1_hangNew_30 ?_
  refine lv_iload_n hx hb dX1_hangNew_33 rfl (lv_at hl 0 rfl) ?_
  refine lv_aload_n hx hb dX1_hangNew_34 rfl (lv_at hl 1 rfl) ?_
  refine va_get (D := (dC, dI)) (ci := 1) (v := .ref (a 7)) (C := RX1) (T := TX1) (N := 7) hx hb hts hin_1 hown hK hP 0 rfl rfl 5 (by decide) hf_29 (fun _ h9 => h9) rfl dX1_hangNew_35 ?_
  refine lv_iload_n hx hb dX1_hangNew_38 rfl (lv_at hl 0 rfl) ?_
  refine zq_dald hx hb hK hP 6 2 rfl rfl (j := N) (by omega) (by decide) dX1_hangNew_39 ?_
  rw [zq_vus]
  refine zq_dast hx hb hK hP hD hS 5 2 rfl rfl (j := N) (by omega) (by decide) (wLa a cI cZ cD (upd ki N k) (upd pl N 0) tu le (vf_upd ch N (la_new k)) (vf_upd ca N (la_new k)) (nI N)) rfl dX1_hangNew_40 (fun H locs hP hD hS => ?_)
  refine lv_aload_n hx hb dX1_hangNew_41 rfl (lv_at hl 1 rfl) ?_
  refine lv_dup hx hb dX1_hangNew_42 rfl ?_
  refine va_get (D := (dC, dI)) (ci := 1) (v := .int (nI N)) (C := RX1) (T := TX1) (N := 7) hx hb hts hin_1 hown hK hP 0 rfl rfl 6 (by decide) hf_32 (fun _ h9 => h9) rfl dX1_hangNew_43 ?_
  refine lv_iconst (v := 1) hx hb dX1_hangNew_46 (by decide) ?_
  refine t_iadd hx hb dX1_hangNew_47 (v := nI (N + 1)) (nI_1 _) ?_
  refine va_put (D := (dC, dI)) (ci := 1) (v := .int (nI (N + 1))) (ty := .int) (C := RX1) (T := TX1) (N := 7) hx hb hts hin_1 tyX1 tyX1_ok nmX1 hown hK hP hD hS 0 rfl rfl 6 (by decide) hf_32 (fun _ h9 => h9) rfl (by decide +kernel) rfl rfl (Nat.le_of_ble_eq_true rfl) dX1_hangNew_48 (fun H locs hP hD hS => ?_)
  have hP : va_P (dC, dI) vwCl (wLa a cI cZ cD (upd ki N k) (upd pl N 0) tu le (vf_upd ch N (la_new k)) (vf_upd ca N (la_new k)) (nI (N + 1))) H := hP
  have hD : va_D A (wLa a cI cZ cD (upd ki N k) (upd pl N 0) tu le (vf_upd ch N (la_new k)) (vf_upd ca N (la_new k)) (nI (N + 1))) := hD
  refine lv_iload_n hx hb dX1_hangNew_51 rfl (lv_at hl 0 rfl) ?_
  exact W.iret (v := nI N) hx hb hr (zq_qi rfl hP hK hD hS) hS.2.2 dX1_hangNew_52
end
section
set_option maxHeartbeats 4000000 in
set_option maxRecDepth 100000 in
theorem c_X2_size (l : Launch) (dC : Nat → ClassId) (dI : Nat → Nat → Nat) (a : Nat → Nat) (cI cZ cD : ClassId) (tk th hu od : Nat → Int32) (N : Nat) (ti : Int32) (hN : N ≤ 30) (sz : Nat) : zq_Mi l yX2_size wsX2_size ({ frames := 0, cells := 0, slots := 0, locals := 0 } : Room) (dC, dI) (zq_T cI cZ cD) [.ref (a 8)] (wTa a cI tk th hu od (nI N) ti) (nI N) (wTa a cI tk th hu od (nI N) ti) sz := by
  refine Met.ofW (cc := cX2_size) (maxL := 1) (ret := (some .int)) (by decide) rfl ?_
  intro p e s m args below meth c s₁ B hml hv
  obtain ⟨rfl, hsz, hP, hK, hD0⟩ := hv
  have hx := B.exec
  have hb := B.bytes
  have hr := B.returns
  have hts := atoms_spec (ws := wsX2_size) B.pre
  have hown : s.vm.findClass RX2 = some m.cls := findClass_of_methodNamed B.named
  have hlocks := B.notSynchronized
  subst hsz
  have hD := hD0.self (sz := s.heap.size)
  generalize hAe : va_A (wTa a cI tk th hu od (nI N) ti) s.heap.size = A at hD ⊢
  have hA : ∀ q : Nat, s.heap.size ≤ q → A q := fun q h => by rw [← hAe]; exact Or.inr h
  have hS : va_S A s.heap s.heap [] := va_S.rf
  have hP : va_P (dC, dI) vwCl (wTa a cI tk th hu od (nI N) ti) s.heap := hP
  have hl := lv_entry ([.ref (a 8)]) (n := 1) (Nat.le_of_ble_eq_true rfl)
  rw [lg_entry_eq]
  generalize (lg_sl ([.ref (a 8)]) ++ List.replicate (1 - (lg_sl ([.ref (a 8)])).length) Slot.unset).toArray = ls at hl ⊢
  have hl : lv_has ls 1 [(0, .ref (a 8))] := hl
  have hf_24 := hts (.fieldLink RX2 24 "LampRoom$Tallies" "count" "I") (by decide +kernel)
  have hin_2 : ∀ w ∈ wsX20, w ∈ wsX2_size := by decide +kernel
  refine lv_aload_n hx hb dX2_size_0 rfl (lv_at hl 0 rfl) ?_
  refine va_get (D := (dC, dI)) (ci := 2) (v := .int (nI N)) (C := RX2) (T := TX2) (N := 6) hx hb hts hin_2 hown hK hP 0 rfl rfl 4 (by decide) hf_24 (fun _ h9 => h9) rfl dX2_size_1 ?_
  exact W.iret (v := nI N) hx hb hr (zq_qi rfl hP hK hD hS) hS.2.2 dX2_size_4

set_option maxHeartbeats 4000000 in
set_option maxRecDepth 100000 in
theorem c_X2_kindAt (l : Launch) (dC : Nat → ClassId) (dI : Nat → Nat → Nat) (a : Nat → Nat) (cI cZ cD : ClassId) (tk th hu od : Nat → Int32) (N : Nat) (ti : Int32) (hN : N ≤ 30) (mi : Nat) (hm : mi < 30) (sz : Nat) : zq_Mi l yX2_kindAt wsX2_kindAt ({ frames := 0, cells := 0, slots := 0, locals := 0 } : Room) (dC, dI) (zq_T cI cZ cD) [.ref (a 8), .int (nI mi)] (wTa a cI tk th hu od (nI N) ti) (tk mi) (wTa a cI tk th hu od (nI N) ti) sz := by
  refine Met.ofW (cc := cX2_kindAt) (maxL := 2) (ret := (some .int)) (by decide) rfl ?_
  intro p e s m args below meth c s₁ B hml hv
  obtain ⟨rfl, hsz, hP, hK, hD0⟩ := hv
  have hx := B.exec
  have hb := B.bytes
  have hr := B.returns
  have hts := atoms_spec (ws := wsX2_kindAt) B.pre
  have hown : s.vm.findClass RX2 = some m.cls := findClass_of_methodNamed B.named
  have hlocks := B.notSynchronized
  subst hsz
  have hD := hD0.self (sz := s.heap.size)
  generalize hAe : va_A (wTa a cI tk th hu od (nI N) ti) s.heap.size = A at hD ⊢
  have hA : ∀ q : Nat, s.heap.size ≤ q → A q := fun q h => by rw [← hAe]; exact Or.inr h
  have hS : va_S A s.heap s.heap [] := va_S.rf
  have hP : va_P (dC, dI) vwCl (wTa a cI tk th hu od (nI N) ti) s.heap := hP
  have hl := lv_entry ([.ref (a 8), .int (nI mi)]) (n := 2) (Nat.le_of_ble_eq_true rfl)
  rw [lg_entry_eq]
  generalize (lg_sl ([.ref (a 8), .int (nI mi)]) ++ List.replicate (2 - (lg_sl ([.ref (a 8), .int (nI mi)])).length) Slot.unset).toArray = ls at hl ⊢
  have hl : lv_has ls 2 [(0, .ref (a 8)), (1, .int (nI mi))] := hl
  have hf_9 := hts (.fieldLink RX2 9 "LampRoom$Tallies" "kinds" "[I") (by decide +kernel)
  have hin_2 : ∀ w ∈ wsX20, w ∈ wsX2_kindAt := by decide +kernel
  refine lv_aload_n hx hb dX2_kindAt_0 rfl (lv_at hl 0 rfl) ?_
  refine va_get (D := (dC, dI)) (ci := 2) (v := .ref (a 9)) (C := RX2) (T := TX2) (N := 6) hx hb hts hin_2 hown hK hP 0 rfl rfl 0 (by decide) hf_9 (fun _ h9 => h9) rfl dX2_kindAt_1 ?_
  refine lv_iload_n hx hb dX2_kindAt_4 rfl (lv_at hl 1 rfl) ?_
  refine zq_iald hx hb hK hP 1 0 rfl rfl (j := mi) (by omega) (by decide) dX2_kindAt_5 ?_
  exact W.iret (v := tk mi) hx hb hr (zq_qi rfl hP hK hD hS) hS.2.2 dX2_kindAt_6

set_option maxHeartbeats 4000000 in
set_option maxRecDepth 100000 in
theorem c_X2_lampHeld (l : Launch) (dC : Nat → ClassId) (dI : Nat → Nat → Nat) (a : Nat → Nat) (cI cZ cD : ClassId) (tk th hu od : Nat → Int32) (N : Nat) (ti : Int32) (hN : N ≤ 30) (mi : Nat) (hm : mi < 30) (sz : Nat) : zq_Mi l yX2_lampHeld wsX2_lampHeld ({ frames := 0, cells := 0, slots := 0, locals := 0 } : Room) (dC, dI) (zq_T cI cZ cD) [.ref (a 8), .int (nI mi)] (wTa a cI tk th hu od (nI N) ti) (th mi) (wTa a cI tk th hu od (nI N) ti) sz := by
  refine Met.ofW (cc := cX2_lampHeld) (maxL := 2) (ret := (some .int)) (by decide) rfl ?_
  intro p e s m args below meth c s₁ B hml hv
  obtain ⟨rfl, hsz, hP, hK, hD0⟩ := hv
  have hx := B.exec
  have hb := B.bytes
  have hr := B.returns
  have hts := atoms_spec (ws := wsX2_lampHeld) B.pre
  have hown : s.vm.findClass RX2 = some m.cls := findClass_of_methodNamed B.named
  have hlocks := B.notSynchronized
  subst hsz
  have hD := hD0.self (sz := s.heap.size)
  generalize hAe : va_A (wTa a cI tk th hu od (nI N) ti) s.heap.size = A at hD ⊢
  have hA : ∀ q : Nat, s.heap.size ≤ q → A q := fun q h => by rw [← hAe]; exact Or.inr h
  have hS : va_S A s.heap s.heap [] := va_S.rf
  have hP : va_P (dC, dI) vwCl (wTa a cI tk th hu od (nI N) ti) s.heap := hP
  have hl := lv_entry ([.ref (a 8), .int (nI mi)]) (n := 2) (Nat.le_of_ble_eq_true rfl)
  rw [lg_entry_eq]
  generalize (lg_sl ([.ref (a 8), .int (nI mi)]) ++ List.replicate (2 - (lg_sl ([.ref (a 8), .int (nI mi)])).length) Slot.unset).toArray = ls at hl ⊢
  have hl : lv_has ls 2 [(0, .ref (a 8)), (1, .int (nI mi))] := hl
  have hf_15 := hts (.fieldLink RX2 15 "LampRoom$Tallies" "held" "[I") (by decide +kernel)
  have hin_2 : ∀ w ∈ wsX20, w ∈ wsX2_lampHeld := by decide +kernel
  refine lv_aload_n hx hb dX2_lampHeld_0 rfl (lv_at hl 0 rfl) ?_
  refine va_get (D := (dC, dI)) (ci := 2) (v := .ref (a 10)) (C := RX2) (T := TX2) (N := 6) hx hb hts hin_2 hown hK hP 0 rfl rfl 1 (by decide) hf_15 (fun _ h9 => h9) rfl dX2_lampHeld_1 ?_
  refine lv_iload_n hx hb dX2_lampHeld_4 rfl (lv_at hl 1 rfl) ?_
  refine zq_iald hx hb hK hP 2 0 rfl rfl (j := mi) (by omega) (by decide) dX2_lampHeld_5 ?_
  exact W.iret (v := th mi) hx hb hr (zq_qi rfl hP hK hD hS) hS.2.2 dX2_lampHeld_6

set_option maxHeartbeats 4000000 in
set_option maxRecDepth 100000 in
theorem c_X2_hungAt (l : Launch) (dC : Nat → ClassId) (dI : Nat → Nat → Nat) (a : Nat → Nat) (cI cZ cD : ClassId) (tk th hu od : Nat → Int32) (N : Nat) (ti : Int32) (hN : N ≤ 30) (mi : Nat) (hm : mi < 30) (sz : Nat) : zq_Mi l yX2_hungAt wsX2_hungAt ({ frames := 0, cells := 0, slots := 0, locals := 0 } : Room) (dC, dI) (zq_T cI cZ cD) [.ref (a 8), .int (nI mi)] (wTa a cI tk th hu od (nI N) ti) (hu mi) (wTa a cI tk th hu od (nI N) ti) sz := by
  refine Met.ofW (cc := cX2_hungAt) (maxL := 2) (ret := (some .int)) (by decide) rfl ?_
  intro p e s m args below meth c s₁ B hml hv
  obtain ⟨rfl, hsz, hP, hK, hD0⟩ := hv
  have hx := B.exec
  have hb := B.bytes
  have hr := B.returns
  have hts := atoms_spec (ws := wsX2_hungAt) B.pre
  have hown : s.vm.findClass RX2 = some m.cls := findClass_of_methodNamed B.named
  have hlocks := B.notSynchronized
  subst hsz
  have hD := hD0.self (sz := s.heap.size)
  generalize hAe : va_A (wTa a cI tk th hu od (nI N) ti) s.heap.size = A at hD ⊢
  have hA : ∀ q : Nat, s.heap.size ≤ q → A q := fun q h => by rw [← hAe]; exact Or.inr h
  have hS : va_S A s.heap s.heap [] := va_S.rf
  have hP : va_P (dC, dI) vwCl (wTa a cI tk th hu od (nI N) ti) s.heap := hP
  have hl := lv_entry ([.ref (a 8), .int (nI mi)]) (n := 2) (Nat.le_of_ble_eq_true rfl)
  rw [lg_entry_eq]
  generalize (lg_sl ([.ref (a 8), .int (nI mi)]) ++ List.replicate (2 - (lg_sl ([.ref (a 8), .int (nI mi)])).length) Slot.unset).toArray = ls at hl ⊢
  have hl : lv_has ls 2 [(0, .ref (a 8)), (1, .int (nI mi))] := hl
  have hf_18 := hts (.fieldLink RX2 18 "LampRoom$Tallies" "hours" "[I") (by decide +kernel)
  have hin_2 : ∀ w ∈ wsX20, w ∈ wsX2_hungAt := by decide +kernel
  refine lv_aload_n hx hb dX2_hungAt_0 rfl (lv_at hl 0 rfl) ?_
  refine va_get (D := (dC, dI)) (ci := 2) (v := .ref (a 11)) (C := RX2) (T := TX2) (N := 6) hx hb hts hin_2 hown hK hP 0 rfl rfl 2 (by decide) hf_18 (fun _ h9 => h9) rfl dX2_hungAt_1 ?_
  refine lv_iload_n hx hb dX2_hungAt_4 rfl (lv_at hl 1 rfl) ?_
  refine zq_iald hx hb hK hP 3 0 rfl rfl (j := mi) (by omega) (by decide) dX2_hungAt_5 ?_
  exact W.iret (v := hu mi) hx hb hr (zq_qi rfl hP hK hD hS) hS.2.2 dX2_hungAt_6

set_option maxHeartbeats 4000000 in
set_option maxRecDepth 100000 in
theorem c_X2_enter (l : Launch) (dC : Nat → ClassId) (dI : Nat → Nat → Nat) (a : Nat → Nat) (cI cZ cD : ClassId) (tk th hu od : Nat → Int32) (N : Nat) (ti : Int32) (hN : N ≤ 30) (k : Int32) (hN1 : N < 30) (sz : Nat) : zq_Mi l yX2_enter wsX2_enter ({ frames := 0, cells := 0, slots := 0, locals := 0 } : Room) (dC, dI) (zq_T cI cZ cD) [.ref (a 8), .int k] (wTa a cI tk th hu od (nI N) ti) (nI N) (wTa a cI (upd tk N k) (upd th N (-1)) hu od (nI (N + 1)) ti) sz := by
  refine Met.ofW (cc := cX2_enter) (maxL := 3) (ret := (some .int)) (by decide) rfl ?_
  intro p e s m args below meth c s₁ B hml hv
  obtain ⟨rfl, hsz, hP, hK, hD0⟩ := hv
  have hx := B.exec
  have hb := B.bytes
  have hr := B.returns
  have hts := atoms_spec (ws := wsX2_enter) B.pre
  have hown : s.vm.findClass RX2 = some m.cls := findClass_of_methodNamed B.named
  have hlocks := B.notSynchronized
  subst hsz
  have hD := hD0.self (sz := s.heap.size)
  generalize hAe : va_A (wTa a cI tk th hu od (nI N) ti) s.heap.size = A at hD ⊢
  have hA : ∀ q : Nat, s.heap.size ≤ q → A q := fun q h => by rw [← hAe]; exact Or.inr h
  have hS : va_S A s.heap s.heap [] := va_S.rf
  have hP : va_P (dC, dI) vwCl (wTa a cI tk th hu od (nI N) ti) s.heap := hP
  have hl := lv_entry ([.ref (a 8), .int k]) (n := 3) (Nat.le_of_ble_eq_true rfl)
  rw [lg_entry_eq]
  generalize (lg_sl ([.ref (a 8), .int k]) ++ List.replicate (3 - (lg_sl ([.ref (a 8), .int k])).length) Slot.unset).toArray = ls at hl ⊢
  have hl : lv_has ls 3 [(0, .ref (a 8)), (1, .int k)] := hl
  have hf_24 := hts (.fieldLink RX2 24 "LampRoom$Tallies" "count" "I") (by decide +kernel)
  have hin_2 : ∀ w ∈ wsX20, w ∈ wsX2_enter := by decide +kernel
  have hf_9 := hts (.fieldLink RX2 9 "LampRoom$Tallies" "kinds" "[I") (by decide +kernel)
  have hf_15 := hts (.fieldLink RX2 15 "LampRoom$Tallies" "held" "[I") (by decide +kernel)
  refine lv_aload_n hx hb dX2_enter_0 rfl (lv_at hl 0 rfl) ?_
  refine va_get (D := (dC, dI)) (ci := 2) (v := .int (nI N)) (C := RX2) (T := TX2) (N := 6) hx hb hts hin_2 hown hK hP 0 rfl rfl 4 (by decide) hf_24 (fun _ h9 => h9) rfl dX2_enter_1 ?_
  refine lv_istore_n (lv' := [(2, .int (nI N)), (0, .ref (a 8)), (1, .int k)]) hx hb dX2_enter_4 rfl hl (by decide) rfl (fun ls hl => ?_)
  refine lv_aload_n hx hb dX2_enter_5 rfl (lv_at hl 1 rfl) ?_
  refine va_get (D := (dC, dI)) (ci := 2) (v := .ref (a 9)) (C := RX2) (T := TX2) (N := 6) hx hb hts hin_2 hown hK hP 0 rfl rfl 0 (by decide) hf_9 (fun _ h9 => h9) rfl dX2_enter_6 ?_
  refine lv_iload_n hx hb dX2_enter_9 rfl (lv_at hl 0 rfl) ?_
  refine lv_iload_n hx hb dX2_enter_10 rfl (lv_at hl 2 rfl) ?_
  refine zq_iast hx hb hK hP hD hS 1 0 rfl rfl (j := N) (by omega) (by decide) (wTa a cI (upd tk N k) th hu od (nI N) ti) rfl dX2_enter_11 (fun H locs hP hD hS => ?_)
  refine lv_aload_n hx hb dX2_enter_12 rfl (lv_at hl 1 rfl) ?_
  refine va_get (D := (dC, dI)) (ci := 2) (v := .ref (a 10)) (C := RX2) (T := TX2) (N := 6) hx hb hts hin_2 hown hK hP 0 rfl rfl 1 (by decide) hf_15 (fun _ h9 => h9) rfl dX2_enter_13 ?_
  refine lv_iload_n hx hb dX2_enter_16 rfl (lv_at hl 0 rfl) ?_
  refine lv_iconst (v := (-1)) hx hb dX2_enter_17 (by decide) ?_
  refine zq_iast hx hb hK hP hD hS 2 0 rfl rfl (j := N) (by omega) (by decide) (wTa a cI (upd tk N k) (upd th N (-1)) hu od (nI N) ti) rfl dX2_enter_18 (fun H locs hP hD hS => ?_)
  refine lv_aload_n hx hb dX2_enter_19 rfl (lv_at hl 1 rfl) ?_
  refine lv_dup hx hb dX2_enter_20 rfl ?_
  refine va_get (D := (dC, dI)) (ci := 2) (v := .int (nI N)) (C := RX2) (T := TX2) (N := 6) hx hb hts hin_2 hown hK hP 0 rfl rfl 4 (by decide) hf_24 (fun _ h9 => h9) rfl dX2_enter_21 ?_
  refine lv_iconst (v := 1) hx hb dX2_enter_24 (by decide) ?_
  refine t_iadd hx hb dX2_enter_25 (v := nI (N + 1)) (nI_1 _) ?_
  refine va_put (D := (dC, dI)) (ci := 2) (v := .int (nI (N + 1))) (ty := .int) (C := RX2) (T := TX2) (N := 6) hx hb hts hin_2 tyX2 tyX2_ok nmX2 hown hK hP hD hS 0 rfl rfl 4 (by decide) hf_24 (fun _ h9 => h9) rfl (by decide +kernel) rfl rfl (Nat.le_of_ble_eq_true rfl) dX2_enter_26 (fun H locs hP hD hS => ?_)
  have hP : va_P (dC, dI) vwCl (wTa a cI (upd tk N k) (upd th N (-1)) hu od (nI (N + 1)) ti) H := hP
  have hD : va_D A (wTa a cI (upd tk N k) (upd th N (-1)) hu od (nI (N + 1)) ti) := hD
  refine lv_iload_n hx hb dX2_enter_29 rfl (lv_at hl 0 rfl) ?_
  exact W.iret (v := nI N) hx hb hr (zq_qi rfl hP hK hD hS) hS.2.2 dX2_enter_30

set_option maxHeartbeats 4000000 in
set_option maxRecDepth 100000 in
theorem c_X2_onBoard (l : Launch) (dC : Nat → ClassId) (dI : Nat → Nat → Nat) (a : Nat → Nat) (cI cZ cD : ClassId) (tk th hu od : Nat → Int32) (N : Nat) (ti : Int32) (hN : N ≤ 30) (sz : Nat) : zq_Mi l yX2_onBoard wsX2_onBoard ({ frames := 0, cells := 0, slots := 0, locals := 0 } : Room) (dC, dI) (zq_T cI cZ cD) [.ref (a 8)] (wTa a cI tk th hu od (nI N) ti) (nI (zf_cnt (ta_p th) N)) (wTa a cI tk th hu od (nI N) ti) sz := by
  refine Met.ofW (cc := cX2_onBoard) (maxL := 3) (ret := (some .int)) (by decide) rfl ?_
  intro p e s m args below meth c s₁ B hml hv
  obtain ⟨rfl, hsz, hP, hK, hD0⟩ := hv
  have hx := B.exec
  have hb := B.bytes
  have hr := B.returns
  have hts := atoms_spec (ws := wsX2_onBoard) B.pre
  have hown : s.vm.findClass RX2 = some m.cls := findClass_of_methodNamed B.named
  have hlocks := B.notSynchronized
  subst hsz
  have hD := hD0.self (sz := s.heap.size)
  generalize hAe : va_A (wTa a cI tk th hu od (nI N) ti) s.heap.size = A at hD ⊢
  have hA : ∀ q : Nat, s.heap.size ≤ q → A q := fun q h => by rw [← hAe]; exact Or.inr h
  have hS : va_S A s.heap s.heap [] := va_S.rf
  have hP : va_P (dC, dI) vwCl (wTa a cI tk th hu od (nI N) ti) s.heap := hP
  have hl := lv_entry ([.ref (a 8)]) (n := 3) (Nat.le_of_ble_eq_true rfl)
  rw [lg_entry_eq]
  generalize (lg_sl ([.ref (a 8)]) ++ List.replicate (3 - (lg_sl ([.ref (a 8)])).length) Slot.unset).toArray = ls at hl ⊢
  have hl : lv_has ls 3 [(0, .ref (a 8))] := hl
  have hf_24 := hts (.fieldLink RX2 24 "LampRoom$Tallies" "count" "I") (by decide +kernel)
  have hin_2 : ∀ w ∈ wsX20, w ∈ wsX2_onBoard := by decide +kernel
  have hf_15 := hts (.fieldLink RX2 15 "LampRoom$Tallies" "held" "[I") (by decide +kernel)
  refine lv_iconst (v := 0) hx hb dX2_onBoard_0 (by decide) ?_
  refine lv_istore_n (lv' := [(1, .int 0), (0, .ref (a 8))]) hx hb dX2_onBoard_1 rfl hl (by decide) rfl (fun ls hl => ?_)
  refine lv_iconst (v := 0) hx hb dX2_onBoard_2 (by decide) ?_
  refine lv_istore_n (lv' := [(2, .int 0), (1, .int 0), (0, .ref (a 8))]) hx hb dX2_onBoard_3 rfl hl (by decide) rfl (fun ls hl => ?_)
  refine zq_loop 4 N (fun i H locs ls => va_P (dC, dI) vwCl (wTa a cI tk th hu od (nI N) ti) H ∧ va_D A (wTa a cI tk th hu od (nI N) ti) ∧ va_S A s.heap H locs ∧ lv_has ls 3 [(1, .int (nI (zf_cnt (ta_p th) i))), (2, .int (nI i)), (0, .ref (a 8))]) ?_ 0 (by omega) _ _ _ ⟨hP, hD, hS, lv_sub hl [1, 0, 2] rfl⟩
  intro i hi_i ih_i H locs ls hh
  obtain ⟨hP, hD, hS, hl⟩ := hh
  refine lv_iload_n hx hb dX2_onBoard_4 rfl (lv_at hl 1 rfl) ?_
  refine lv_aload_n hx hb dX2_onBoard_5 rfl (lv_at hl 2 rfl) ?_
  refine va_get (D := (dC, dI)) (ci := 2) (v := .int (nI N)) (C := RX2) (T := TX2) (N := 6) hx hb hts hin_2 hown hK hP 0 rfl rfl 4 (by decide) hf_24 (fun _ h9 => h9) rfl dX2_onBoard_6 ?_
  refine lv_icmp_ge (tgt := 31) hx hb dX2_onBoard_9 (by decide) (fun c_0 => ?_) (fun c_0 => ?_)
  · have d_0 := (nI_leI (a := N) (b := i) (by omega) (by omega)).mp c_0
    have ei_i : i = N := by omega
    refine lv_iload_n hx hb dX2_onBoard_31 rfl (lv_at hl 0 rfl) ?_
    exact W.iret (v := nI (zf_cnt (ta_p th) i)) hx hb hr (zq_qi (by first | with_reducible rfl | simp [d_0, ei_i]) hP hK hD hS) hS.2.2 dX2_onBoard_32
  · have d_0 := Nat.not_le.mp (fun h => c_0 ((nI_leI (a := N) (b := i) (by omega) (by omega)).mpr h))
    refine lv_aload_n hx hb dX2_onBoard_12 rfl (lv_at hl 2 rfl) ?_
    refine va_get (D := (dC, dI)) (ci := 2) (v := .ref (a 10)) (C := RX2) (T := TX2) (N := 6) hx hb hts hin_2 hown hK hP 0 rfl rfl 1 (by decide) hf_15 (fun _ h9 => h9) rfl dX2_onBoard_13 ?_
    refine lv_iload_n hx hb dX2_onBoard_16 rfl (lv_at hl 1 rfl) ?_
    refine zq_iald hx hb hK hP 2 0 rfl rfl (j := i) (by omega) (by decide) dX2_onBoard_17 ?_
    refine lv_iconst (v := (-1)) hx hb dX2_onBoard_18 (by decide) ?_
    refine lv_icmp_eq (tgt := 25) hx hb dX2_onBoard_19 (by decide) (fun c_1 => ?_) (fun c_1 => ?_)
    · refine lv_iinc (v := nI (i + 1)) (lv' := [(2, .int (nI (i + 1))), (1, .int (nI (zf_cnt (ta_p th) i))), (0, .ref (a 8))]) hx hb dX2_onBoard_25 hl (k := 1) rfl (nI_add _ 1) (by decide) rfl (fun ls hl => ?_)
      refine lv_goto (tgt := 4) hx hb dX2_onBoard_28 (by decide) ?_
      have e_2 : (nI (zf_cnt (ta_p th) (i + 1))) = (nI (zf_cnt (ta_p th) i)) := by rw [zf_cnt_f (by simp [ta_p, d_0, c_1])]
      exact ih_i _ _ _ (by omega) ⟨(by (try rw [e_2]); exact hP), (by (try rw [e_2]); exact hD), hS, (by (try rw [e_2]); exact lv_sub hl [1, 0, 2] rfl)⟩
    · refine lv_iinc (v := nI ((zf_cnt (ta_p th) i) + 1)) (lv' := [(1, .int (nI ((zf_cnt (ta_p th) i) + 1))), (2, .int (nI i)), (0, .ref (a 8))]) hx hb dX2_onBoard_22 hl (k := 0) rfl (nI_add _ 1) (by decide) rfl (fun ls hl => ?_)
      refine lv_iinc (v := nI (i + 1)) (lv' := [(2, .int (nI (i + 1))), (1, .int (nI ((zf_cnt (ta_p th) i) + 1))), (0, .ref (a 8))]) hx hb dX2_onBoard_25 hl (k := 1) rfl (nI_add _ 1) (by decide) rfl (fun ls hl => ?_)
      refine lv_goto (tgt := 4) hx hb dX2_onBoard_28 (by decide) ?_
      have e_3 : (nI (zf_cnt (ta_p th) (i + 1))) = (nI ((zf_cnt (ta_p th) i) + 1)) := by rw [zf_cnt_t (by simp [ta_p, d_0, c_1])]
      exact ih_i _ _ _ (by omega) ⟨(by (try rw [e_3]); exact hP), (by (try rw [e_3]); exact hD), hS, (by (try rw [e_3]); exact lv_sub hl [1, 0, 2] rfl)⟩

set_option maxHeartbeats 4000000 in
set_option maxRecDepth 100000 in
theorem c_X2_countAhead (l : Launch) (dC : Nat → ClassId) (dI : Nat → Nat → Nat) (a : Nat → Nat) (cI cZ cD : ClassId) (tk th hu od : Nat → Int32) (N : Nat) (ti : Int32) (hN : N ≤ 30) (mi : Nat) (hm : mi < 30) (sz : Nat) : zq_Mi l yX2_countAhead wsX2_countAhead ({ frames := 0, cells := 0, slots := 0, locals := 0 } : Room) (dC, dI) (zq_T cI cZ cD) [.ref (a 8), .int (nI mi)] (wTa a cI tk th hu od (nI N) ti) (nI (zf_cnt (ta_ah th od mi) N)) (wTa a cI tk th hu od (nI N) ti) sz := by
  refine Met.ofW (cc := cX2_countAhead) (maxL := 4) (ret := (some .int)) (by decide) rfl ?_
  intro p e s m args below meth c s₁ B hml hv
  obtain ⟨rfl, hsz, hP, hK, hD0⟩ := hv
  have hx := B.exec
  have hb := B.bytes
  have hr := B.returns
  have hts := atoms_spec (ws := wsX2_countAhead) B.pre
  have hown : s.vm.findClass RX2 = some m.cls := findClass_of_methodNamed B.named
  have hlocks := B.notSynchronized
  subst hsz
  have hD := hD0.self (sz := s.heap.size)
  generalize hAe : va_A (wTa a cI tk th hu od (nI N) ti) s.heap.size = A at hD ⊢
  have hA : ∀ q : Nat, s.heap.size ≤ q → A q := fun q h => by rw [← hAe]; exact Or.inr h
  have hS : va_S A s.heap s.heap [] := va_S.rf
  have hP : va_P (dC, dI) vwCl (wTa a cI tk th hu od (nI N) ti) s.heap := hP
  have hl := lv_entry ([.ref (a 8), .int (nI mi)]) (n := 4) (Nat.le_of_ble_eq_true rfl)
  rw [lg_entry_eq]
  generalize (lg_sl ([.ref (a 8), .int (nI mi)]) ++ List.replicate (4 - (lg_sl ([.ref (a 8), .int (nI mi)])).length) Slot.unset).toArray = ls at hl ⊢
  have hl : lv_has ls 4 [(0, .ref (a 8)), (1, .int (nI mi))] := hl
  have hf_24 := hts (.fieldLink RX2 24 "LampRoom$Tallies" "count" "I") (by decide +kernel)
  have hin_2 : ∀ w ∈ wsX20, w ∈ wsX2_countAhead := by decide +kernel
  have hf_15 := hts (.fieldLink RX2 15 "LampRoom$Tallies" "held" "[I") (by decide +kernel)
  have hf_21 := hts (.fieldLink RX2 21 "LampRoom$Tallies" "orders" "[I") (by decide +kernel)
  refine lv_iconst (v := 0) hx hb dX2_countAhead_0 (by decide) ?_
  refine lv_istore_n (lv' := [(2, .int 0), (0, .ref (a 8)), (1, .int (nI mi))]) hx hb dX2_countAhead_1 rfl hl (by decide) rfl (fun ls hl => ?_)
  refine lv_iconst (v := 0) hx hb dX2_countAhead_2 (by decide) ?_
  refine lv_istore_n (lv' := [(3, .int 0), (2, .int 0), (0, .ref (a 8)), (1, .int (nI mi))]) hx hb dX2_countAhead_3 rfl hl (by decide) rfl (fun ls hl => ?_)
  refine zq_loop 4 N (fun i H locs ls => va_P (dC, dI) vwCl (wTa a cI tk th hu od (nI N) ti) H ∧ va_D A (wTa a cI tk th hu od (nI N) ti) ∧ va_S A s.heap H locs ∧ lv_has ls 4 [(2, .int (nI (zf_cnt (ta_ah th od mi) i))), (3, .int (nI i)), (0, .ref (a 8)), (1, .int (nI mi))]) ?_ 0 (by omega) _ _ _ ⟨hP, hD, hS, lv_sub hl [1, 0, 2, 3] rfl⟩
  intro i hi_i ih_i H locs ls hh
  obtain ⟨hP, hD, hS, hl⟩ := hh
  refine lv_iload_n hx hb dX2_countAhead_4 rfl (lv_at hl 1 rfl) ?_
  refine lv_aload_n hx hb dX2_countAhead_5 rfl (lv_at hl 2 rfl) ?_
  refine va_get (D := (dC, dI)) (ci := 2) (v := .int (nI N)) (C := RX2) (T := TX2) (N := 6) hx hb hts hin_2 hown hK hP 0 rfl rfl 4 (by decide) hf_24 (fun _ h9 => h9) rfl dX2_countAhead_6 ?_
  refine lv_icmp_ge (tgt := 46) hx hb dX2_countAhead_9 (by decide) (fun c_0 => ?_) (fun c_0 => ?_)
  · have d_0 := (nI_leI (a := N) (b := i) (by omega) (by omega)).mp c_0
    have ei_i : i = N := by omega
    refine lv_iload_n hx hb dX2_countAhead_46 rfl (lv_at hl 0 rfl) ?_
    exact W.iret (v := nI (zf_cnt (ta_ah th od mi) i)) hx hb hr (zq_qi (by first | with_reducible rfl | simp [d_0, ei_i]) hP hK hD hS) hS.2.2 dX2_countAhead_47
  · have d_0 := Nat.not_le.mp (fun h => c_0 ((nI_leI (a := N) (b := i) (by omega) (by omega)).mpr h))
    refine lv_aload_n hx hb dX2_countAhead_12 rfl (lv_at hl 2 rfl) ?_
    refine va_get (D := (dC, dI)) (ci := 2) (v := .ref (a 10)) (C := RX2) (T := TX2) (N := 6) hx hb hts hin_2 hown hK hP 0 rfl rfl 1 (by decide) hf_15 (fun _ h9 => h9) rfl dX2_countAhead_13 ?_
    refine lv_iload_n hx hb dX2_countAhead_16 rfl (lv_at hl 1 rfl) ?_
    refine zq_iald hx hb hK hP 2 0 rfl rfl (j := i) (by omega) (by decide) dX2_countAhead_17 ?_
    refine lv_iconst (v := (-1)) hx hb dX2_countAhead_18 (by decide) ?_
    refine lv_icmp_eq (tgt := 40) hx hb dX2_countAhead_19 (by decide) (fun c_1 => ?_) (fun c_1 => ?_)
    · refine lv_iinc (v := nI (i + 1)) (lv' := [(3, .int (nI (i + 1))), (2, .int (nI (zf_cnt (ta_ah th od mi) i))), (0, .ref (a 8)), (1, .int (nI mi))]) hx hb dX2_countAhead_40 hl (k := 1) rfl (nI_add _ 1) (by decide) rfl (fun ls hl => ?_)
      refine lv_goto (tgt := 4) hx hb dX2_countAhead_43 (by decide) ?_
      have e_2 : (nI (zf_cnt (ta_ah th od mi) (i + 1))) = (nI (zf_cnt (ta_ah th od mi) i)) := by rw [zf_cnt_f (by simp [ta_ah, d_0, c_1])]
      exact ih_i _ _ _ (by omega) ⟨(by (try rw [e_2]); exact hP), (by (try rw [e_2]); exact hD), hS, (by (try rw [e_2]); exact lv_sub hl [1, 0, 2, 3] rfl)⟩
    · refine lv_aload_n hx hb dX2_countAhead_22 rfl (lv_at hl 2 rfl) ?_
      refine va_get (D := (dC, dI)) (ci := 2) (v := .ref (a 12)) (C := RX2) (T := TX2) (N := 6) hx hb hts hin_2 hown hK hP 0 rfl rfl 3 (by decide) hf_21 (fun _ h9 => h9) rfl dX2_countAhead_23 ?_
      refine lv_iload_n hx hb dX2_countAhead_26 rfl (lv_at hl 1 rfl) ?_
      refine zq_iald hx hb hK hP 4 0 rfl rfl (j := i) (by omega) (by decide) dX2_countAhead_27 ?_
      refine lv_aload_n hx hb dX2_countAhead_28 rfl (lv_at hl 2 rfl) ?_
      refine va_get (D := (dC, dI)) (ci := 2) (v := .ref (a 12)) (C := RX2) (T := TX2) (N := 6) hx hb hts hin_2 hown hK hP 0 rfl rfl 3 (by decide) hf_21 (fun _ h9 => h9) rfl dX2_countAhead_29 ?_
      refine lv_iload_n hx hb dX2_countAhead_32 rfl (lv_at hl 3 rfl) ?_
      refine zq_iald hx hb hK hP 4 0 rfl rfl (j := mi) (by omega) (by decide) dX2_countAhead_33 ?_
      refine lv_icmp_ge (tgt := 40) hx hb dX2_countAhead_34 (by decide) (fun c_3 => ?_) (fun c_3 => ?_)
      · refine lv_iinc (v := nI (i + 1)) (lv' := [(3, .int (nI (i + 1))), (2, .int (nI (zf_cnt (ta_ah th od mi) i))), (0, .ref (a 8)), (1, .int (nI mi))]) hx hb dX2_countAhead_40 hl (k := 1) rfl (nI_add _ 1) (by decide) rfl (fun ls hl => ?_)
        refine lv_goto (tgt := 4) hx hb dX2_countAhead_43 (by decide) ?_
        have e_4 : (nI (zf_cnt (ta_ah th od mi) (i + 1))) = (nI (zf_cnt (ta_ah th od mi) i)) := by rw [zf_cnt_f (by simp [ta_ah, d_0, c_1, c_3])]
        exact ih_i _ _ _ (by omega) ⟨(by (try rw [e_4]); exact hP), (by (try rw [e_4]); exact hD), hS, (by (try rw [e_4]); exact lv_sub hl [1, 0, 2, 3] rfl)⟩
      · refine lv_iinc (v := nI ((zf_cnt (ta_ah th od mi) i) + 1)) (lv' := [(2, .int (nI ((zf_cnt (ta_ah th od mi) i) + 1))), (3, .int (nI i)), (0, .ref (a 8)), (1, .int (nI mi))]) hx hb dX2_countAhead_37 hl (k := 0) rfl (nI_add _ 1) (by decide) rfl (fun ls hl => ?_)
        refine lv_iinc (v := nI (i + 1)) (lv' := [(3, .int (nI (i + 1))), (2, .int (nI ((zf_cnt (ta_ah th od mi) i) + 1))), (0, .ref (a 8)), (1, .int (nI mi))]) hx hb dX2_countAhead_40 hl (k := 1) rfl (nI_add _ 1) (by decide) rfl (fun ls hl => ?_)
        refine lv_goto (tgt := 4) hx hb dX2_countAhead_43 (by decide) ?_
        have e_5 : (nI (zf_cnt (ta_ah th od mi) (i + 1))) = (nI ((zf_cnt (ta_ah th od mi) i) + 1)) := by rw [zf_cnt_t (by simp [ta_ah, d_0, c_1, c_3, Int32.not_le.mp c_3])]
        exact ih_i _ _ _ (by omega) ⟨(by (try rw [e_5]); exact hP), (by (try rw [e_5]); exact hD), hS, (by (try rw [e_5]); exact lv_sub hl [1, 0, 2, 3] rfl)⟩

set_option maxHeartbeats 4000000 in
set_option maxRecDepth 100000 in
theorem c_X2_onBoardAt (l : Launch) (dC : Nat → ClassId) (dI : Nat → Nat → Nat) (a : Nat → Nat) (cI cZ cD : ClassId) (tk th hu od : Nat → Int32) (N : Nat) (ti : Int32) (hN : N ≤ 30) (pl : Int32) (sz : Nat) : zq_Mi l yX2_onBoardAt wsX2_onBoardAt ({ frames := 1, cells := 0, slots := 0, locals := 23 } : Room) (dC, dI) (zq_T cI cZ cD) [.ref (a 8), .int pl] (wTa a cI tk th hu od (nI N) ti) (zf_find (ta_hit th od N pl) N 0) (wTa a cI tk th hu od (nI N) ti) sz := by
  refine Met.ofW (cc := cX2_onBoardAt) (maxL := 3) (ret := (some .int)) (by decide) rfl ?_
  intro p e s m args below meth c s₁ B hml hv
  obtain ⟨rfl, hsz, hP, hK, hD0⟩ := hv
  have hx := B.exec
  have hb := B.bytes
  have hr := B.returns
  have hts := atoms_spec (ws := wsX2_onBoardAt) B.pre
  have hown : s.vm.findClass RX2 = some m.cls := findClass_of_methodNamed B.named
  have hlocks := B.notSynchronized
  subst hsz
  have hD := hD0.self (sz := s.heap.size)
  generalize hAe : va_A (wTa a cI tk th hu od (nI N) ti) s.heap.size = A at hD ⊢
  have hA : ∀ q : Nat, s.heap.size ≤ q → A q := fun q h => by rw [← hAe]; exact Or.inr h
  have hS : va_S A s.heap s.heap [] := va_S.rf
  have hP : va_P (dC, dI) vwCl (wTa a cI tk th hu od (nI N) ti) s.heap := hP
  have hl := lv_entry ([.ref (a 8), .int pl]) (n := 3) (Nat.le_of_ble_eq_true rfl)
  rw [lg_entry_eq]
  generalize (lg_sl ([.ref (a 8), .int pl]) ++ List.replicate (3 - (lg_sl ([.ref (a 8), .int pl])).length) Slot.unset).toArray = ls at hl ⊢
  have hl : lv_has ls 3 [(0, .ref (a 8)), (1, .int pl)] := hl
  have hf_24 := hts (.fieldLink RX2 24 "LampRoom$Tallies" "count" "I") (by decide +kernel)
  have hin_2 : ∀ w ∈ wsX20, w ∈ wsX2_onBoardAt := by decide +kernel
  have hf_15 := hts (.fieldLink RX2 15 "LampRoom$Tallies" "held" "[I") (by decide +kernel)
  refine lv_iconst (v := 0) hx hb dX2_onBoardAt_0 (by decide) ?_
  refine lv_istore_n (lv' := [(2, .int 0), (0, .ref (a 8)), (1, .int pl)]) hx hb dX2_onBoardAt_1 rfl hl (by decide) rfl (fun ls hl => ?_)
  refine zq_loop 2 N (fun i H locs ls => va_P (dC, dI) vwCl (wTa a cI tk th hu od (nI N) ti) H ∧ va_D A (wTa a cI tk th hu od (nI N) ti) ∧ va_S A s.heap H locs ∧ lv_has ls 3 [(2, .int (nI i)), (0, .ref (a 8)), (1, .int pl)] ∧ zf_find (ta_hit th od N pl) (N - i) i = zf_find (ta_hit th od N pl) N 0) ?_ 0 (by omega) _ _ _ ⟨hP, hD, hS, lv_sub hl [0, 1, 2] rfl, rfl⟩
  intro i hi_i ih_i H locs ls hh
  obtain ⟨hP, hD, hS, hl, hx_i⟩ := hh
  refine lv_iload_n hx hb dX2_onBoardAt_2 rfl (lv_at hl 0 rfl) ?_
  refine lv_aload_n hx hb dX2_onBoardAt_3 rfl (lv_at hl 1 rfl) ?_
  refine va_get (D := (dC, dI)) (ci := 2) (v := .int (nI N)) (C := RX2) (T := TX2) (N := 6) hx hb hts hin_2 hown hK hP 0 rfl rfl 4 (by decide) hf_24 (fun _ h9 => h9) rfl dX2_onBoardAt_4 ?_
  refine lv_icmp_ge (tgt := 37) hx hb dX2_onBoardAt_7 (by decide) (fun c_0 => ?_) (fun c_0 => ?_)
  · have d_0 := (nI_leI (a := N) (b := i) (by omega) (by omega)).mp c_0
    have ei_i : i = N := by omega
    refine lv_iconst (v := (-1)) hx hb dX2_onBoardAt_37 (by decide) ?_
    exact W.iret (v := (-1)) hx hb hr (zq_qi (by rw [← hx_i]; exact (zf_end (by omega)).symm) hP hK hD hS) hS.2.2 dX2_onBoardAt_38
  · have d_0 := Nat.not_le.mp (fun h => c_0 ((nI_leI (a := N) (b := i) (by omega) (by omega)).mpr h))
    refine lv_aload_n hx hb dX2_onBoardAt_10 rfl (lv_at hl 1 rfl) ?_
    refine va_get (D := (dC, dI)) (ci := 2) (v := .ref (a 10)) (C := RX2) (T := TX2) (N := 6) hx hb hts hin_2 hown hK hP 0 rfl rfl 1 (by decide) hf_15 (fun _ h9 => h9) rfl dX2_onBoardAt_11 ?_
    refine lv_iload_n hx hb dX2_onBoardAt_14 rfl (lv_at hl 0 rfl) ?_
    refine zq_iald hx hb hK hP 2 0 rfl rfl (j := i) (by omega) (by decide) dX2_onBoardAt_15 ?_
    refine lv_iconst (v := (-1)) hx hb dX2_onBoardAt_16 (by decide) ?_
    refine lv_icmp_eq (tgt := 31) hx hb dX2_onBoardAt_17 (by decide) (fun c_1 => ?_) (fun c_1 => ?_)
    · refine lv_iinc (v := nI (i + 1)) (lv' := [(2, .int (nI (i + 1))), (0, .ref (a 8)), (1, .int pl)]) hx hb dX2_onBoardAt_31 hl (k := 0) rfl (nI_add _ 1) (by decide) rfl (fun ls hl => ?_)
      refine lv_goto (tgt := 2) hx hb dX2_onBoardAt_34 (by decide) ?_
      exact ih_i _ _ _ (by omega) ⟨hP, hD, hS, lv_sub hl [0, 1, 2] rfl, (by rw [← hx_i]; exact (zf_miss (by omega) (by simp [ta_hit, d_0, c_1])).symm)⟩
    · refine lv_aload_n hx hb dX2_onBoardAt_20 rfl (lv_at hl 1 rfl) ?_
      refine lv_iload_n hx hb dX2_onBoardAt_21 rfl (lv_at hl 0 rfl) ?_
      refine zq_cVi (As := [.int (nI i)]) (rest := []) (wc := (wTa a cI tk th hu od (nI N) ti)) (w1 := (wTa a cI tk th hu od (nI N) ti)) (wr := ([] : va_W)) (ws' := (wTa a cI tk th hu od (nI N) ti)) ⟨hx, hb, hml, hown, hts⟩ (c_X2_countAhead l dC dI a cI cZ cD tk th hu od N ti (by omega) i (by omega) H.size) (cwV 1 hts gX2_onBoardAt_X2_countAhead rfl rfl rfl (by decide +kernel) ⟨Nat.le_of_ble_eq_true rfl, Nat.le_of_ble_eq_true rfl⟩) hK hP hD hS hA [0, 1, 2, 3, 4] [] [0, 1, 2, 3, 4] rfl rfl rfl rfl (by decide) rfl rfl (ci := 2) rfl 0 rfl rfl hl.1 rfl (Nat.le_of_ble_eq_true rfl) dX2_onBoardAt_22 ⟨Nat.zero_le _, Nat.zero_le _⟩ (fun H locs hP hD hS => ?_)
      refine lv_iload_n hx hb dX2_onBoardAt_25 rfl (lv_at hl 2 rfl) ?_
      refine lv_icmp_ne (tgt := 31) hx hb dX2_onBoardAt_26 (by decide) (fun c_2 => ?_) (fun c_2 => ?_)
      · refine lv_iinc (v := nI (i + 1)) (lv' := [(2, .int (nI (i + 1))), (0, .ref (a 8)), (1, .int pl)]) hx hb dX2_onBoardAt_31 hl (k := 0) rfl (nI_add _ 1) (by decide) rfl (fun ls hl => ?_)
        refine lv_goto (tgt := 2) hx hb dX2_onBoardAt_34 (by decide) ?_
        exact ih_i _ _ _ (by omega) ⟨hP, hD, hS, lv_sub hl [0, 1, 2] rfl, (by rw [← hx_i]; exact (zf_miss (by omega) (by simp [ta_hit, d_0, c_1, c_2])).symm)⟩
      · refine lv_iload_n hx hb dX2_onBoardAt_29 rfl (lv_at hl 0 rfl) ?_
        exact W.iret (v := nI i) hx hb hr (zq_qi (by rw [← hx_i]; exact (zf_hit (by omega) (by simp [ta_hit, d_0, c_1, c_2])).symm) hP hK hD hS) hS.2.2 dX2_onBoardAt_30
end
section
set_option maxHeartbeats 4000000 in
set_option maxRecDepth 100000 in
theorem c_X1_hundredthsOnRack (l : Launch) (dC : Nat → ClassId) (dI : Nat → Nat → Nat) (a : Nat → Nat) (cI cZ cD : ClassId) (ki pl tu le : Nat → Int32) (ch ca : Nat → UInt64) (N : Nat) (hN : N ≤ 40) (hp : ∀ i, i < 40 → zn_p (ch i)) (hc : ∀ i, i < 40 → zn_p (ca i)) (sz : Nat) : zq_Mi l yX1_hundredthsOnRack wsX1_hundredthsOnRack ({ frames := 0, cells := 0, slots := 0, locals := 0 } : Room) (dC, dI) (zq_T cI cZ cD) [.ref (a 1)] (wLa a cI cZ cD ki pl tu le ch ca (nI N)) (la_rc (la_sum pl ch N) (la_sum pl ca N)) (wLa a cI cZ cD ki pl tu le ch ca (nI N)) sz := by
  refine Met.ofW (cc := cX1_hundredthsOnRack) (maxL := 6) (ret := (some .int)) (by decide) rfl ?_
  intro p e s m args below meth c s₁ B hml hv
  obtain ⟨rfl, hsz, hP, hK, hD0⟩ := hv
  have hx := B.exec
  have hb := B.bytes
  have hr := B.returns
  have hts := atoms_spec (ws := wsX1_hundredthsOnRack) B.pre
  have hown : s.vm.findClass RX1 = some m.cls := findClass_of_methodNamed B.named
  have hlocks := B.notSynchronized
  subst hsz
  have hD := hD0.self (sz := s.heap.size)
  generalize hAe : va_A (wLa a cI cZ cD ki pl tu le ch ca (nI N)) s.heap.size = A at hD ⊢
  have hA : ∀ q : Nat, s.heap.size ≤ q → A q := fun q h => by rw [← hAe]; exact Or.inr h
  have hS : va_S A s.heap s.heap [] := va_S.rf
  have hP : va_P (dC, dI) vwCl (wLa a cI cZ cD ki pl tu le ch ca (nI N)) s.heap := hP
  have hl := lv_entry ([.ref (a 1)]) (n := 6) (Nat.le_of_ble_eq_true rfl)
  rw [lg_entry_eq]
  generalize (lg_sl ([.ref (a 1)]) ++ List.replicate (6 - (lg_sl ([.ref (a 1)])).length) Slot.unset).toArray = ls at hl ⊢
  have hl : lv_has ls 6 [(0, .ref (a 1))] := hl
  have hf_32 := hts (.fieldLink RX1 32 "LampRoom$Lamps" "count" "I") (by decide +kernel)
  have hin_1 : ∀ w ∈ wsX10, w ∈ wsX1_hundredthsOnRack := by decide +kernel
  have hc_58 := hts (.constantDouble RX1 58 (4636737291354636288)) (by decide +kernel)
  have hf_15 := hts (.fieldLink RX1 15 "LampRoom$Lamps" "places" "[I") (by decide +kernel)
  have hf_25 := hts (.fieldLink RX1 25 "LampRoom$Lamps" "charges" "[D") (by decide +kernel)
  have hf_29 := hts (.fieldLink RX1 29 "LampRoom$Lamps" "capacities" "[D") (by decide +kernel)
  refine zq_dconst0 hx hb dX1_hundredthsOnRack_0 ?_
  refine lv_dstore_n (lv' := [(1, .double 0), (0, .ref (a 1))]) hx hb dX1_hundredthsOnRack_1 rfl hl (by decide) rfl (fun ls hl => ?_)
  refine zq_dconst0 hx hb dX1_hundredthsOnRack_2 ?_
  refine lv_dstore_n (lv' := [(3, .double 0), (1, .double 0), (0, .ref (a 1))]) hx hb dX1_hundredthsOnRack_3 rfl hl (by decide) rfl (fun ls hl => ?_)
  refine lv_iconst (v := 0) hx hb dX1_hundredthsOnRack_4 (by decide) ?_
  refine lv_istore (lv' := [(5, .int 0), (3, .double 0), (1, .double 0), (0, .ref (a 1))]) hx hb dX1_hundredthsOnRack_5 hl (by decide) rfl (fun ls hl => ?_)
  refine zq_loop 7 N (fun i H locs ls => va_P (dC, dI) vwCl (wLa a cI cZ cD ki pl tu le ch ca (nI N)) H ∧ va_D A (wLa a cI cZ cD ki pl tu le ch ca (nI N)) ∧ va_S A s.heap H locs ∧ lv_has ls 6 [(1, .double (la_sum pl ch i)), (3, .double (la_sum pl ca i)), (5, .int (nI i)), (0, .ref (a 1))]) ?_ 0 (by omega) _ _ _ ⟨hP, hD, hS, lv_sub hl [2, 1, 0, 3] rfl⟩
  intro i hi_i ih_i H locs ls hh
  obtain ⟨hP, hD, hS, hl⟩ := hh
  refine lv_iload hx hb dX1_hundredthsOnRack_7 (lv_at hl 2 rfl) ?_
  refine lv_aload_n hx hb dX1_hundredthsOnRack_9 rfl (lv_at hl 3 rfl) ?_
  refine va_get (D := (dC, dI)) (ci := 1) (v := .int (nI N)) (C := RX1) (T := TX1) (N := 7) hx hb hts hin_1 hown hK hP 0 rfl rfl 6 (by decide) hf_32 (fun _ h9 => h9) rfl dX1_hundredthsOnRack_10 ?_
  refine lv_icmp_ge (tgt := 52) hx hb dX1_hundredthsOnRack_13 (by decide) (fun c_0 => ?_) (fun c_0 => ?_)
  · have d_0 := (nI_leI (a := N) (b := i) (by omega) (by omega)).mp c_0
    have ei_i : i = N := by omega
    have zs := zn_K_mono (L := 2047) (zn_sum (pl := pl) hp (by omega) N (by omega)) (by omega)
    have zk := zn_K_mono (L := 2047) (zn_sum (pl := pl) hc (by omega) N (by omega)) (by omega)
    rw [ei_i] at hl
    refine lv_dload_n hx hb dX1_hundredthsOnRack_52 rfl (lv_at hl 1 rfl) ?_
    refine zq_dconst0 hx hb dX1_hundredthsOnRack_53 ?_
    refine lv_dcmp hx hb dX1_hundredthsOnRack_54 ?_
    refine lv_if_le (tgt := 69) hx hb dX1_hundredthsOnRack_55 (by decide) (fun c_1 => ?_) (fun c_1 => ?_)
    · have hg0 : ¬ la_gt (la_sum pl ca N) 0 = true := fun q => of_decide_eq_true q c_1
      refine lv_iconst (v := 0) hx hb dX1_hundredthsOnRack_69 (by decide) ?_
      exact W.iret (v := 0) hx hb hr (zq_qi (by rw [la_rc, if_neg hg0]) hP hK hD hS) hS.2.2 dX1_hundredthsOnRack_70
    · have hg0 : la_gt (la_sum pl ca N) 0 = true := decide_eq_true c_1
      have hk0 := (fz_gt0 (Nat.le_of_lt (zn_K_le zk (by decide)))).mp hg0
      refine lv_dload_n hx hb dX1_hundredthsOnRack_58 rfl (lv_at hl 0 rfl) ?_
      refine lv_dload_n hx hb dX1_hundredthsOnRack_59 rfl (lv_at hl 1 rfl) ?_
      refine lv_ddiv hx hb dX1_hundredthsOnRack_60 (zn_of_ne (zn_divn zs zk (by decide) hk0).1) ?_
      refine lv_ldc2d hx hb hown hc_58 dX1_hundredthsOnRack_61 ?_
      refine lv_dmul hx hb dX1_hundredthsOnRack_64 (zn_of_ne (zn_divn zs zk (by decide) hk0).2) ?_
      refine lv_d2i hx hb dX1_hundredthsOnRack_65 ?_
      refine lv_goto (tgt := 70) hx hb dX1_hundredthsOnRack_66 (by decide) ?_
      exact W.iret (v := FP.d2i (FP.dmul (FP.ddiv (la_sum pl ch N) (la_sum pl ca N)) 4636737291354636288)) hx hb hr (zq_qi (by rw [la_rc, if_pos hg0]) hP hK hD hS) hS.2.2 dX1_hundredthsOnRack_70
  · have d_0 := Nat.not_le.mp (fun h => c_0 ((nI_leI (a := N) (b := i) (by omega) (by omega)).mpr h))
    refine lv_aload_n hx hb dX1_hundredthsOnRack_16 rfl (lv_at hl 3 rfl) ?_
    refine va_get (D := (dC, dI)) (ci := 1) (v := .ref (a 3)) (C := RX1) (T := TX1) (N := 7) hx hb hts hin_1 hown hK hP 0 rfl rfl 1 (by decide) hf_15 (fun _ h9 => h9) rfl dX1_hundredthsOnRack_17 ?_
    refine lv_iload hx hb dX1_hundredthsOnRack_20 (lv_at hl 2 rfl) ?_
    refine zq_iald hx hb hK hP 2 0 rfl rfl (j := i) (by omega) (by decide) dX1_hundredthsOnRack_22 ?_
    refine lv_if_ne (tgt := 46) hx hb dX1_hundredthsOnRack_23 (by decide) (fun c_2 => ?_) (fun c_2 => ?_)
    · refine lv_iinc (v := nI (i + 1)) (lv' := [(5, .int (nI (i + 1))), (1, .double (la_sum pl ch i)), (3, .double (la_sum pl ca i)), (0, .ref (a 1))]) hx hb dX1_hundredthsOnRack_46 hl (k := 2) rfl (nI_add _ 1) (by decide) rfl (fun ls hl => ?_)
      refine lv_goto (tgt := 7) hx hb dX1_hundredthsOnRack_49 (by decide) ?_
      have e_3 : (la_sum pl ch (i + 1)) = (la_sum pl ch i) := by simp [la_sum, d_0, c_2]
      have e_4 : (la_sum pl ca (i + 1)) = (la_sum pl ca i) := by simp [la_sum, d_0, c_2]
      exact ih_i _ _ _ (by omega) ⟨(by (try rw [e_3]); (try rw [e_4]); exact hP), (by (try rw [e_3]); (try rw [e_4]); exact hD), hS, (by (try rw [e_3]); (try rw [e_4]); exact lv_sub hl [1, 2, 0, 3] rfl)⟩
    · refine lv_dload_n hx hb dX1_hundredthsOnRack_26 rfl (lv_at hl 0 rfl) ?_
      refine lv_aload_n hx hb dX1_hundredthsOnRack_27 rfl (lv_at hl 3 rfl) ?_
      refine va_get (D := (dC, dI)) (ci := 1) (v := .ref (a 6)) (C := RX1) (T := TX1) (N := 7) hx hb hts hin_1 hown hK hP 0 rfl rfl 4 (by decide) hf_25 (fun _ h9 => h9) rfl dX1_hundredthsOnRack_28 ?_
      refine lv_iload hx hb dX1_hundredthsOnRack_31 (lv_at hl 2 rfl) ?_
      refine zq_dald hx hb hK hP 5 2 rfl rfl (j := i) (by omega) (by decide) dX1_hundredthsOnRack_33 ?_
      refine lv_dadd hx hb dX1_hundredthsOnRack_34 (zn_sum_n hp (by omega) (by omega)) ?_
      refine lv_dstore_n (lv' := [(1, .double (FP.dadd (la_sum pl ch i) (ch i))), (3, .double (la_sum pl ca i)), (5, .int (nI i)), (0, .ref (a 1))]) hx hb dX1_hundredthsOnRack_35 rfl hl (by decide) rfl (fun ls hl => ?_)
      refine lv_dload_n hx hb dX1_hundredthsOnRack_36 rfl (lv_at hl 1 rfl) ?_
      refine lv_aload_n hx hb dX1_hundredthsOnRack_37 rfl (lv_at hl 3 rfl) ?_
      refine va_get (D := (dC, dI)) (ci := 1) (v := .ref (a 7)) (C := RX1) (T := TX1) (N := 7) hx hb hts hin_1 hown hK hP 0 rfl rfl 5 (by decide) hf_29 (fun _ h9 => h9) rfl dX1_hundredthsOnRack_38 ?_
      refine lv_iload hx hb dX1_hundredthsOnRack_41 (lv_at hl 2 rfl) ?_
      refine zq_dald hx hb hK hP 6 2 rfl rfl (j := i) (by omega) (by decide) dX1_hundredthsOnRack_43 ?_
      refine lv_dadd hx hb dX1_hundredthsOnRack_44 (zn_sum_n hc (by omega) (by omega)) ?_
      refine lv_dstore_n (lv' := [(3, .double (FP.dadd (la_sum pl ca i) (ca i))), (1, .double (FP.dadd (la_sum pl ch i) (ch i))), (5, .int (nI i)), (0, .ref (a 1))]) hx hb dX1_hundredthsOnRack_45 rfl hl (by decide) rfl (fun ls hl => ?_)
      refine lv_iinc (v := nI (i + 1)) (lv' := [(5, .int (nI (i + 1))), (3, .double (FP.dadd (la_sum pl ca i) (ca i))), (1, .double (FP.dadd (la_sum pl ch i) (ch i))), (0, .ref (a 1))]) hx hb dX1_hundredthsOnRack_46 hl (k := 2) rfl (nI_add _ 1) (by decide) rfl (fun ls hl => ?_)
      refine lv_goto (tgt := 7) hx hb dX1_hundredthsOnRack_49 (by decide) ?_
      have e_5 : (la_sum pl ch (i + 1)) = (FP.dadd (la_sum pl ch i) (ch i)) := by simp [la_sum, d_0, c_2]
      have e_6 : (la_sum pl ca (i + 1)) = (FP.dadd (la_sum pl ca i) (ca i)) := by simp [la_sum, d_0, c_2]
      exact ih_i _ _ _ (by omega) ⟨(by (try rw [e_5]); (try rw [e_6]); exact hP), (by (try rw [e_5]); (try rw [e_6]); exact hD), hS, (by (try rw [e_5]); (try rw [e_6]); exact lv_sub hl [2, 1, 0, 3] rfl)⟩

set_option maxHeartbeats 4000000 in
set_option maxRecDepth 100000 in
theorem c_X3_checkKind_ok (l : Launch) (k : Int32) (hk : in_b k 0 2 = true) : zq_Sv l yX3_checkKind wsX3_checkKind ({ frames := 0, cells := 0, slots := 0, locals := 0 } : Room) [.int k] := by
  refine Met.ofW (cc := cX3_checkKind) (maxL := 1) (ret := none) (by decide) rfl ?_
  intro p e s m args below meth c s₁ B hml hv
  obtain ⟨rfl, -⟩ := hv
  have hx := B.exec
  have hb := B.bytes
  have hr := B.returns
  have hts := atoms_spec (ws := wsX3_checkKind) B.pre
  have hown : s.vm.findClass RX3 = some m.cls := findClass_of_methodNamed B.named
  have hlocks := B.notSynchronized
  have hS : va_S (fun _ => False) s.heap s.heap [] := va_S.rf
  have hl := lv_entry ([.int k]) (n := 1) (Nat.le_of_ble_eq_true rfl)
  rw [lg_entry_eq]
  generalize (lg_sl ([.int k]) ++ List.replicate (1 - (lg_sl ([.int k])).length) Slot.unset).toArray = ls at hl ⊢
  have hl : lv_has ls 1 [(0, .int k)] := hl
  refine lv_iload_n hx hb dX3_checkKind_0 rfl (lv_at hl 0 rfl) ?_
  refine lv_if_lt (tgt := 9) hx hb dX3_checkKind_1 (by decide) (fun c_0 => ?_) (fun c_0 => ?_)
  · exact absurd c_0 (in_b_k hk).1
  · refine lv_iload_n hx hb dX3_checkKind_4 rfl (lv_at hl 0 rfl) ?_
    refine lv_iconst (v := 3) hx hb dX3_checkKind_5 (by decide) ?_
    refine lv_icmp_lt (tgt := 19) hx hb dX3_checkKind_6 (by decide) (fun c_1 => ?_) (fun c_1 => ?_)
    · exact W.vret hx hb hr (fun t ht hW => ⟨⟨(), rfl, trivial, trivial⟩, hS.F ht⟩) (fun q hq => (hS.2.2 q hq).elim) dX3_checkKind_19
    · exact absurd (in_b_k hk).2 c_1

set_option maxHeartbeats 4000000 in
set_option maxRecDepth 100000 in
theorem c_X3_checkKind_bad (l : Launch) (hl0 : l.stackTraces = false) (dC : Nat → ClassId) (dI : Nat → Nat → Nat) (cI cZ cD : ClassId) (k : Int32) (hk : in_b k 0 2 = false) (sz : Nat) : zx_Mv l yX3_checkKind wsX3_checkKind ({ frames := 6, cells := 1, slots := 6, locals := 90 } : Room) (dC, dI) (zq_T cI cZ cD) [.int k] ([] : va_W) zx_A sz := by
  refine vx_ofW (cc := cX3_checkKind) (maxL := 1) (ret := none) (by decide) rfl ?_
  intro p e s m args below meth c s₁ B hml hno hv
  obtain ⟨rfl, ⟨hsz, hP, hK, hD0⟩, hH, hE⟩ := hv
  have hx := B.exec
  have hb := B.bytes
  have hr := B.returns
  have hts := atoms_spec (ws := wsX3_checkKind) B.pre
  have hown : s.vm.findClass RX3 = some m.cls := findClass_of_methodNamed B.named
  have hlocks := B.notSynchronized
  subst hsz
  have hD := hD0.self (sz := s.heap.size)
  generalize hAe : va_A ([] : va_W) s.heap.size = A at hD hH ⊢
  have hA : ∀ q : Nat, s.heap.size ≤ q → A q := fun q h => by rw [← hAe]; exact Or.inr h
  have hS : va_S A s.heap s.heap [] := va_S.rf
  have hP : va_P (dC, dI) vwCl ([] : va_W) s.heap := hP
  have hl := lv_entry ([.int k]) (n := 1) (Nat.le_of_ble_eq_true rfl)
  rw [lg_entry_eq]
  generalize (lg_sl ([.int k]) ++ List.replicate (1 - (lg_sl ([.int k])).length) Slot.unset).toArray = ls at hl ⊢
  have hl : lv_has ls 1 [(0, .int k)] := hl
  have hthk := hts (.classLink RX3 113 zx_A) (by decide +kernel)
  have hthi := hts (.initialized zx_A) (by decide +kernel)
  have hthw : ∀ w ∈ (vx_atS RX3 117 zx_A zx_N).filter goodWord, w.before _ s = true := fun w h => hts w ((by decide +kernel : ∀ w ∈ (vx_atS RX3 117 zx_A zx_N).filter goodWord, w ∈ wsX3_checkKind) w h)
  refine lv_iload_n hx hb dX3_checkKind_0 rfl (lv_at hl 0 rfl) ?_
  refine lv_if_lt (tgt := 9) hx hb dX3_checkKind_1 (by decide) (fun c_0 => ?_) (fun c_0 => ?_)
  · obtain ⟨sa, hsa⟩ := hE.2.1
    exact vw_throwS (A := A) (text := "there is no such class") (names := zx_N) hx hb hl0 hown (by decide +kernel) (by decide +kernel) hthk hthi hsa (zx_hatA hthw hE) zx_goodA hH.1 hH.2 hS (hl.1.trans hml.symm) dX3_checkKind_9 dX3_checkKind_12 dX3_checkKind_13 dX3_checkKind_15 dX3_checkKind_18 (fun x hx => (hno x hx).elim) (Nat.le_of_ble_eq_true rfl) (Nat.le_of_ble_eq_true rfl) (Nat.le_of_ble_eq_true rfl) (Nat.le_of_ble_eq_true rfl) hlocks (zx_thrown hP hK hD hS) hS.2.2 (Nat.le_of_ble_eq_true rfl) (Nat.le_of_ble_eq_true rfl)
  · refine lv_iload_n hx hb dX3_checkKind_4 rfl (lv_at hl 0 rfl) ?_
    refine lv_iconst (v := 3) hx hb dX3_checkKind_5 (by decide) ?_
    refine lv_icmp_lt (tgt := 19) hx hb dX3_checkKind_6 (by decide) (fun c_1 => ?_) (fun c_1 => ?_)
    · exact ((in_b_kn hk).elim c_0 (fun h => h c_1)).elim
    · obtain ⟨sa, hsa⟩ := hE.2.1
      exact vw_throwS (A := A) (text := "there is no such class") (names := zx_N) hx hb hl0 hown (by decide +kernel) (by decide +kernel) hthk hthi hsa (zx_hatA hthw hE) zx_goodA hH.1 hH.2 hS (hl.1.trans hml.symm) dX3_checkKind_9 dX3_checkKind_12 dX3_checkKind_13 dX3_checkKind_15 dX3_checkKind_18 (fun x hx => (hno x hx).elim) (Nat.le_of_ble_eq_true rfl) (Nat.le_of_ble_eq_true rfl) (Nat.le_of_ble_eq_true rfl) (Nat.le_of_ble_eq_true rfl) hlocks (zx_thrown hP hK hD hS) hS.2.2 (Nat.le_of_ble_eq_true rfl) (Nat.le_of_ble_eq_true rfl)

set_option maxHeartbeats 4000000 in
set_option maxRecDepth 100000 in
theorem c_X3_checkMiner_ok (l : Launch) (dC : Nat → ClassId) (dI : Nat → Nat → Nat) (a : Nat → Nat) (cI cZ cD : ClassId) (ki pl tu le : Nat → Int32) (ch ca : Nat → UInt64) (N : Nat) (tk th hu od : Nat → Int32) (M : Nat) (ti : Int32) (be : Nat → Int32) (clk : Int32) (hN : N ≤ 40) (hM : M ≤ 30) (mi : Nat) (hm : mi < M) (sz : Nat) : zq_Mv l yX3_checkMiner wsX3_checkMiner ({ frames := 1, cells := 0, slots := 0, locals := 20 } : Room) (dC, dI) (zq_T cI cZ cD) [.ref (a 0), .int (nI mi)] (wRo a cI cZ cD ki pl tu le ch ca (nI N) tk th hu od (nI M) ti be clk) (wRo a cI cZ cD ki pl tu le ch ca (nI N) tk th hu od (nI M) ti be clk) sz := by
  refine Met.ofW (cc := cX3_checkMiner) (maxL := 2) (ret := none) (by decide) rfl ?_
  intro p e s m args below meth c s₁ B hml hv
  obtain ⟨rfl, hsz, hP, hK, hD0⟩ := hv
  have hx := B.exec
  have hb := B.bytes
  have hr := B.returns
  have hts := atoms_spec (ws := wsX3_checkMiner) B.pre
  have hown : s.vm.findClass RX3 = some m.cls := findClass_of_methodNamed B.named
  have hlocks := B.notSynchronized
  subst hsz
  have hD := hD0.self (sz := s.heap.size)
  generalize hAe : va_A (wRo a cI cZ cD ki pl tu le ch ca (nI N) tk th hu od (nI M) ti be clk) s.heap.size = A at hD ⊢
  have hA : ∀ q : Nat, s.heap.size ≤ q → A q := fun q h => by rw [← hAe]; exact Or.inr h
  have hS : va_S A s.heap s.heap [] := va_S.rf
  have hP : va_P (dC, dI) vwCl (wRo a cI cZ cD ki pl tu le ch ca (nI N) tk th hu od (nI M) ti be clk) s.heap := hP
  have hl := lv_entry ([.ref (a 0), .int (nI mi)]) (n := 2) (Nat.le_of_ble_eq_true rfl)
  rw [lg_entry_eq]
  generalize (lg_sl ([.ref (a 0), .int (nI mi)]) ++ List.replicate (2 - (lg_sl ([.ref (a 0), .int (nI mi)])).length) Slot.unset).toArray = ls at hl ⊢
  have hl : lv_has ls 2 [(0, .ref (a 0)), (1, .int (nI mi))] := hl
  have hf_19 := hts (.fieldLink RX3 19 "LampRoom" "tallies" "LLampRoom$Tallies;") (by decide +kernel)
  have hin_3 : ∀ w ∈ wsX30, w ∈ wsX3_checkMiner := by decide +kernel
  refine lv_iload_n hx hb dX3_checkMiner_0 rfl (lv_at hl 1 rfl) ?_
  refine lv_if_lt (tgt := 15) hx hb dX3_checkMiner_1 (by decide) (fun c_0 => ?_) (fun c_0 => ?_)
  · exact absurd c_0 (nI_pos (by omega))
  · refine lv_iload_n hx hb dX3_checkMiner_4 rfl (lv_at hl 1 rfl) ?_
    refine lv_aload_n hx hb dX3_checkMiner_5 rfl (lv_at hl 0 rfl) ?_
    refine va_get (D := (dC, dI)) (ci := 3) (v := .ref (a 8)) (C := RX3) (T := TX3) (N := 4) hx hb hts hin_3 hown hK hP 0 rfl rfl 1 (by decide) hf_19 (fun _ h9 => h9) rfl dX3_checkMiner_6 ?_
    refine zq_cVi (As := []) (rest := [.int (nI mi)]) (wc := (wTa a cI tk th hu od (nI M) ti)) (w1 := (wTa a cI tk th hu od (nI M) ti)) (wr := ([wRm a clk] ++ (wLa a cI cZ cD ki pl tu le ch ca (nI N) ++ (wAl a cI be)) : va_W)) (ws' := (wRo a cI cZ cD ki pl tu le ch ca (nI N) tk th hu od (nI M) ti be clk)) ⟨hx, hb, hml, hown, hts⟩ (c_X2_size l dC dI a cI cZ cD tk th hu od M ti (by omega) s.heap.size) (cwV 0 hts gX3_checkMiner_X2_size rfl rfl rfl (by decide +kernel) ⟨Nat.le_of_ble_eq_true rfl, Nat.le_of_ble_eq_true rfl⟩) hK hP hD hS hA [8, 9, 10, 11, 12] [0, 1, 2, 3, 4, 5, 6, 7, 13, 14] [0, 1, 2, 3, 4, 5, 6, 7, 10, 11, 12, 13, 14, 8, 9] rfl rfl rfl rfl (by decide) rfl rfl (ci := 2) rfl 0 rfl rfl hl.1 rfl (Nat.le_of_ble_eq_true rfl) dX3_checkMiner_9 ⟨Nat.zero_le _, Nat.zero_le _⟩ (fun H locs hP hD hS => ?_)
    refine lv_icmp_lt (tgt := 25) hx hb dX3_checkMiner_12 (by decide) (fun c_1 => ?_) (fun c_1 => ?_)
    · have d_1 := (nI_ltI (a := mi) (b := M) (by omega) (by omega)).mp c_1
      exact W.vret hx hb hr (zq_qv hP hK hD hS) hS.2.2 dX3_checkMiner_25
    · have d_1 := Nat.not_lt.mp (fun h => c_1 ((nI_ltI (a := mi) (b := M) (by omega) (by omega)).mpr h))
      exact absurd hm (by omega)

set_option maxHeartbeats 4000000 in
set_option maxRecDepth 100000 in
theorem c_X3_checkLamp_ok (l : Launch) (dC : Nat → ClassId) (dI : Nat → Nat → Nat) (a : Nat → Nat) (cI cZ cD : ClassId) (ki pl tu le : Nat → Int32) (ch ca : Nat → UInt64) (N : Nat) (tk th hu od : Nat → Int32) (M : Nat) (ti : Int32) (be : Nat → Int32) (clk : Int32) (hN : N ≤ 40) (hM : M ≤ 30) (j : Nat) (hj : j < N) (sz : Nat) : zq_Mv l yX3_checkLamp wsX3_checkLamp ({ frames := 1, cells := 0, slots := 0, locals := 20 } : Room) (dC, dI) (zq_T cI cZ cD) [.ref (a 0), .int (nI j)] (wRo a cI cZ cD ki pl tu le ch ca (nI N) tk th hu od (nI M) ti be clk) (wRo a cI cZ cD ki pl tu le ch ca (nI N) tk th hu od (nI M) ti be clk) sz := by
  refine Met.ofW (cc := cX3_checkLamp) (maxL := 2) (ret := none) (by decide) rfl ?_
  intro p e s m args below meth c s₁ B hml hv
  obtain ⟨rfl, hsz, hP, hK, hD0⟩ := hv
  have hx := B.exec
  have hb := B.bytes
  have hr := B.returns
  have hts := atoms_spec (ws := wsX3_checkLamp) B.pre
  have hown : s.vm.findClass RX3 = some m.cls := findClass_of_methodNamed B.named
  have hlocks := B.notSynchronized
  subst hsz
  have hD := hD0.self (sz := s.heap.size)
  generalize hAe : va_A (wRo a cI cZ cD ki pl tu le ch ca (nI N) tk th hu od (nI M) ti be clk) s.heap.size = A at hD ⊢
  have hA : ∀ q : Nat, s.heap.size ≤ q → A q := fun q h => by rw [← hAe]; exact Or.inr h
  have hS : va_S A s.heap s.heap [] := va_S.rf
  have hP : va_P (dC, dI) vwCl (wRo a cI cZ cD ki pl tu le ch ca (nI N) tk th hu od (nI M) ti be clk) s.heap := hP
  have hl := lv_entry ([.ref (a 0), .int (nI j)]) (n := 2) (Nat.le_of_ble_eq_true rfl)
  rw [lg_entry_eq]
  generalize (lg_sl ([.ref (a 0), .int (nI j)]) ++ List.replicate (2 - (lg_sl ([.ref (a 0), .int (nI j)])).length) Slot.unset).toArray = ls at hl ⊢
  have hl : lv_has ls 2 [(0, .ref (a 0)), (1, .int (nI j))] := hl
  have hf_10 := hts (.fieldLink RX3 10 "LampRoom" "lamps" "LLampRoom$Lamps;") (by decide +kernel)
  have hin_3 : ∀ w ∈ wsX30, w ∈ wsX3_checkLamp := by decide +kernel
  refine lv_iload_n hx hb dX3_checkLamp_0 rfl (lv_at hl 1 rfl) ?_
  refine lv_if_lt (tgt := 15) hx hb dX3_checkLamp_1 (by decide) (fun c_0 => ?_) (fun c_0 => ?_)
  · exact absurd c_0 (nI_pos (by omega))
  · refine lv_iload_n hx hb dX3_checkLamp_4 rfl (lv_at hl 1 rfl) ?_
    refine lv_aload_n hx hb dX3_checkLamp_5 rfl (lv_at hl 0 rfl) ?_
    refine va_get (D := (dC, dI)) (ci := 3) (v := .ref (a 1)) (C := RX3) (T := TX3) (N := 4) hx hb hts hin_3 hown hK hP 0 rfl rfl 0 (by decide) hf_10 (fun _ h9 => h9) rfl dX3_checkLamp_6 ?_
    refine zq_cVi (As := []) (rest := [.int (nI j)]) (wc := (wLa a cI cZ cD ki pl tu le ch ca (nI N))) (w1 := (wLa a cI cZ cD ki pl tu le ch ca (nI N))) (wr := ([wRm a clk] ++ (wTa a cI tk th hu od (nI M) ti ++ (wAl a cI be)) : va_W)) (ws' := (wRo a cI cZ cD ki pl tu le ch ca (nI N) tk th hu od (nI M) ti be clk)) ⟨hx, hb, hml, hown, hts⟩ (c_X1_size l dC dI a cI cZ cD ki pl tu le ch ca N (by omega) s.heap.size) (cwV 0 hts gX3_checkLamp_X1_size rfl rfl rfl (by decide +kernel) ⟨Nat.le_of_ble_eq_true rfl, Nat.le_of_ble_eq_true rfl⟩) hK hP hD hS hA [1, 2, 3, 4, 5, 6, 7] [0, 8, 9, 10, 11, 12, 13, 14] [0, 8, 9, 10, 11, 12, 13, 14, 1, 2, 3, 4, 5, 6, 7] rfl rfl rfl rfl (by decide) rfl rfl (ci := 1) rfl 0 rfl rfl hl.1 rfl (Nat.le_of_ble_eq_true rfl) dX3_checkLamp_9 ⟨Nat.zero_le _, Nat.zero_le _⟩ (fun H locs hP hD hS => ?_)
    refine lv_icmp_lt (tgt := 25) hx hb dX3_checkLamp_12 (by decide) (fun c_1 => ?_) (fun c_1 => ?_)
    · have d_1 := (nI_ltI (a := j) (b := N) (by omega) (by omega)).mp c_1
      exact W.vret hx hb hr (zq_qv hP hK hD hS) hS.2.2 dX3_checkLamp_25
    · have d_1 := Nat.not_lt.mp (fun h => c_1 ((nI_ltI (a := j) (b := N) (by omega) (by omega)).mpr h))
      exact absurd hj (by omega)

set_option maxHeartbeats 4000000 in
set_option maxRecDepth 100000 in
theorem c_X3_checkMiner_bad (l : Launch) (hl0 : l.stackTraces = false) (dC : Nat → ClassId) (dI : Nat → Nat → Nat) (a : Nat → Nat) (cI cZ cD : ClassId) (ki pl tu le : Nat → Int32) (ch ca : Nat → UInt64) (N : Nat) (tk th hu od : Nat → Int32) (M : Nat) (ti : Int32) (be : Nat → Int32) (clk : Int32) (hN : N ≤ 40) (hM : M ≤ 30) (x : Int32) (hx0 : in_b x 0 (nI M - 1) = false) (sz : Nat) : zx_Mv l yX3_checkMiner wsX3_checkMiner ({ frames := 6, cells := 1, slots := 6, locals := 90 } : Room) (dC, dI) (zq_T cI cZ cD) [.ref (a 0), .int x] (wRo a cI cZ cD ki pl tu le ch ca (nI N) tk th hu od (nI M) ti be clk) zx_I sz := by
  refine vx_ofW (cc := cX3_checkMiner) (maxL := 2) (ret := none) (by decide) rfl ?_
  intro p e s m args below meth c s₁ B hml hno hv
  obtain ⟨rfl, ⟨hsz, hP, hK, hD0⟩, hH, hE⟩ := hv
  have hx := B.exec
  have hb := B.bytes
  have hr := B.returns
  have hts := atoms_spec (ws := wsX3_checkMiner) B.pre
  have hown : s.vm.findClass RX3 = some m.cls := findClass_of_methodNamed B.named
  have hlocks := B.notSynchronized
  subst hsz
  have hD := hD0.self (sz := s.heap.size)
  generalize hAe : va_A (wRo a cI cZ cD ki pl tu le ch ca (nI N) tk th hu od (nI M) ti be clk) s.heap.size = A at hD hH ⊢
  have hA : ∀ q : Nat, s.heap.size ≤ q → A q := fun q h => by rw [← hAe]; exact Or.inr h
  have hS : va_S A s.heap s.heap [] := va_S.rf
  have hP : va_P (dC, dI) vwCl (wRo a cI cZ cD ki pl tu le ch ca (nI N) tk th hu od (nI M) ti be clk) s.heap := hP
  have hl := lv_entry ([.ref (a 0), .int x]) (n := 2) (Nat.le_of_ble_eq_true rfl)
  rw [lg_entry_eq]
  generalize (lg_sl ([.ref (a 0), .int x]) ++ List.replicate (2 - (lg_sl ([.ref (a 0), .int x])).length) Slot.unset).toArray = ls at hl ⊢
  have hl : lv_has ls 2 [(0, .ref (a 0)), (1, .int x)] := hl
  have hthk := hts (.classLink RX3 149 zx_I) (by decide +kernel)
  have hthi := hts (.initialized zx_I) (by decide +kernel)
  have hthw : ∀ w ∈ (vx_atS RX3 153 zx_I zx_N).filter goodWord, w.before _ s = true := fun w h => hts w ((by decide +kernel : ∀ w ∈ (vx_atS RX3 153 zx_I zx_N).filter goodWord, w ∈ wsX3_checkMiner) w h)
  have hf_19 := hts (.fieldLink RX3 19 "LampRoom" "tallies" "LLampRoom$Tallies;") (by decide +kernel)
  have hin_3 : ∀ w ∈ wsX30, w ∈ wsX3_checkMiner := by decide +kernel
  refine lv_iload_n hx hb dX3_checkMiner_0 rfl (lv_at hl 1 rfl) ?_
  refine lv_if_lt (tgt := 15) hx hb dX3_checkMiner_1 (by decide) (fun c_0 => ?_) (fun c_0 => ?_)
  · obtain ⟨sa, hsa⟩ := hE.2.2.2.2.1
    exact vw_throwS (A := A) (text := "there is no such miner") (names := zx_N) hx hb hl0 hown (by decide +kernel) (by decide +kernel) hthk hthi hsa (zx_hatI hthw hE) zx_goodI hH.1 hH.2 hS (hl.1.trans hml.symm) dX3_checkMiner_15 dX3_checkMiner_18 dX3_checkMiner_19 dX3_checkMiner_21 dX3_checkMiner_24 (fun x hx => (hno x hx).elim) (Nat.le_of_ble_eq_true rfl) (Nat.le_of_ble_eq_true rfl) (Nat.le_of_ble_eq_true rfl) (Nat.le_of_ble_eq_true rfl) hlocks (zx_thrown hP hK hD hS) hS.2.2 (Nat.le_of_ble_eq_true rfl) (Nat.le_of_ble_eq_true rfl)
  · refine lv_iload_n hx hb dX3_checkMiner_4 rfl (lv_at hl 1 rfl) ?_
    refine lv_aload_n hx hb dX3_checkMiner_5 rfl (lv_at hl 0 rfl) ?_
    refine va_get (D := (dC, dI)) (ci := 3) (v := .ref (a 8)) (C := RX3) (T := TX3) (N := 4) hx hb hts hin_3 hown hK hP 0 rfl rfl 1 (by decide) hf_19 (fun _ h9 => h9) rfl dX3_checkMiner_6 ?_
    refine zq_cVi (As := []) (rest := [.int x]) (wc := (wTa a cI tk th hu od (nI M) ti)) (w1 := (wTa a cI tk th hu od (nI M) ti)) (wr := ([wRm a clk] ++ (wLa a cI cZ cD ki pl tu le ch ca (nI N) ++ (wAl a cI be)) : va_W)) (ws' := (wRo a cI cZ cD ki pl tu le ch ca (nI N) tk th hu od (nI M) ti be clk)) ⟨hx, hb, hml, hown, hts⟩ (c_X2_size l dC dI a cI cZ cD tk th hu od M ti (by omega) s.heap.size) (cwV 0 hts gX3_checkMiner_X2_size rfl rfl rfl (by decide +kernel) ⟨Nat.le_of_ble_eq_true rfl, Nat.le_of_ble_eq_true rfl⟩) hK hP hD hS hA [8, 9, 10, 11, 12] [0, 1, 2, 3, 4, 5, 6, 7, 13, 14] [0, 1, 2, 3, 4, 5, 6, 7, 10, 11, 12, 13, 14, 8, 9] rfl rfl rfl rfl (by decide) rfl rfl (ci := 2) rfl 0 rfl rfl hl.1 rfl (Nat.le_of_ble_eq_true rfl) dX3_checkMiner_9 ⟨Nat.zero_le _, Nat.zero_le _⟩ (fun H locs hP hD hS => ?_)
    refine lv_icmp_lt (tgt := 25) hx hb dX3_checkMiner_12 (by decide) (fun c_1 => ?_) (fun c_1 => ?_)
    · exact ((in_b_n (by omega) hx0).elim c_0 (fun h => h c_1)).elim
    · obtain ⟨sa, hsa⟩ := hE.2.2.2.2.1
      exact vw_throwS (A := A) (text := "there is no such miner") (names := zx_N) hx hb hl0 hown (by decide +kernel) (by decide +kernel) hthk hthi hsa (zx_hatI hthw hE) zx_goodI hH.1 hH.2 hS (hl.1.trans hml.symm) dX3_checkMiner_15 dX3_checkMiner_18 dX3_checkMiner_19 dX3_checkMiner_21 dX3_checkMiner_24 (fun x hx => (hno x hx).elim) (Nat.le_of_ble_eq_true rfl) (Nat.le_of_ble_eq_true rfl) (Nat.le_of_ble_eq_true rfl) (Nat.le_of_ble_eq_true rfl) hlocks (zx_thrown hP hK hD hS) hS.2.2 (Nat.le_of_ble_eq_true rfl) (Nat.le_of_ble_eq_true rfl)

set_option maxHeartbeats 4000000 in
set_option maxRecDepth 100000 in
theorem c_X3_checkLamp_bad (l : Launch) (hl0 : l.stackTraces = false) (dC : Nat → ClassId) (dI : Nat → Nat → Nat) (a : Nat → Nat) (cI cZ cD : ClassId) (ki pl tu le : Nat → Int32) (ch ca : Nat → UInt64) (N : Nat) (tk th hu od : Nat → Int32) (M : Nat) (ti : Int32) (be : Nat → Int32) (clk : Int32) (hN : N ≤ 40) (hM : M ≤ 30) (x : Int32) (hx0 : in_b x 0 (nI N - 1) = false) (sz : Nat) : zx_Mv l yX3_checkLamp wsX3_checkLamp ({ frames := 6, cells := 1, slots := 6, locals := 90 } : Room) (dC, dI) (zq_T cI cZ cD) [.ref (a 0), .int x] (wRo a cI cZ cD ki pl tu le ch ca (nI N) tk th hu od (nI M) ti be clk) zx_I sz := by
  refine vx_ofW (cc := cX3_checkLamp) (maxL := 2) (ret := none) (by decide) rfl ?_
  intro p e s m args below meth c s₁ B hml hno hv
  obtain ⟨rfl, ⟨hsz, hP, hK, hD0⟩, hH, hE⟩ := hv
  have hx := B.exec
  have hb := B.bytes
  have hr := B.returns
  have hts := atoms_spec (ws := wsX3_checkLamp) B.pre
  have hown : s.vm.findClass RX3 = some m.cls := findClass_of_methodNamed B.named
  have hlocks := B.notSynchronized
  subst hsz
  have hD := hD0.self (sz := s.heap.size)
  generalize hAe : va_A (wRo a cI cZ cD ki pl tu le ch ca (nI N) tk th hu od (nI M) ti be clk) s.heap.size = A at hD hH ⊢
  have hA : ∀ q : Nat, s.heap.size ≤ q → A q := fun q h => by rw [← hAe]; exact Or.inr h
  have hS : va_S A s.heap s.heap [] := va_S.rf
  have hP : va_P (dC, dI) vwCl (wRo a cI cZ cD ki pl tu le ch ca (nI N) tk th hu od (nI M) ti be clk) s.heap := hP
  have hl := lv_entry ([.ref (a 0), .int x]) (n := 2) (Nat.le_of_ble_eq_true rfl)
  rw [lg_entry_eq]
  generalize (lg_sl ([.ref (a 0), .int x]) ++ List.replicate (2 - (lg_sl ([.ref (a 0), .int x])).length) Slot.unset).toArray = ls at hl ⊢
  have hl : lv_has ls 2 [(0, .ref (a 0)), (1, .int x)] := hl
  have hthk := hts (.classLink RX3 149 zx_I) (by decide +kernel)
  have hthi := hts (.initialized zx_I) (by decide +kernel)
  have hthw : ∀ w ∈ (vx_atS RX3 153 zx_I zx_N).filter goodWord, w.before _ s = true := fun w h => hts w ((by decide +kernel : ∀ w ∈ (vx_atS RX3 153 zx_I zx_N).filter goodWord, w ∈ wsX3_checkLamp) w h)
  have hf_10 := hts (.fieldLink RX3 10 "LampRoom" "lamps" "LLampRoom$Lamps;") (by decide +kernel)
  have hin_3 : ∀ w ∈ wsX30, w ∈ wsX3_checkLamp := by decide +kernel
  refine lv_iload_n hx hb dX3_checkLamp_0 rfl (lv_at hl 1 rfl) ?_
  refine lv_if_lt (tgt := 15) hx hb dX3_checkLamp_1 (by decide) (fun c_0 => ?_) (fun c_0 => ?_)
  · obtain ⟨sa, hsa⟩ := hE.2.2.2.2.2.2.2.2.1
    exact vw_throwS (A := A) (text := "there is no such lamp") (names := zx_N) hx hb hl0 hown (by decide +kernel) (by decide +kernel) hthk hthi hsa (zx_hatI hthw hE) zx_goodI hH.1 hH.2 hS (hl.1.trans hml.symm) dX3_checkLamp_15 dX3_checkLamp_18 dX3_checkLamp_19 dX3_checkLamp_21 dX3_checkLamp_24 (fun x hx => (hno x hx).elim) (Nat.le_of_ble_eq_true rfl) (Nat.le_of_ble_eq_true rfl) (Nat.le_of_ble_eq_true rfl) (Nat.le_of_ble_eq_true rfl) hlocks (zx_thrown hP hK hD hS) hS.2.2 (Nat.le_of_ble_eq_true rfl) (Nat.le_of_ble_eq_true rfl)
  · refine lv_iload_n hx hb dX3_checkLamp_4 rfl (lv_at hl 1 rfl) ?_
    refine lv_aload_n hx hb dX3_checkLamp_5 rfl (lv_at hl 0 rfl) ?_
    refine va_get (D := (dC, dI)) (ci := 3) (v := .ref (a 1)) (C := RX3) (T := TX3) (N := 4) hx hb hts hin_3 hown hK hP 0 rfl rfl 0 (by decide) hf_10 (fun _ h9 => h9) rfl dX3_checkLamp_6 ?_
    refine zq_cVi (As := []) (rest := [.int x]) (wc := (wLa a cI cZ cD ki pl tu le ch ca (nI N))) (w1 := (wLa a cI cZ cD ki pl tu le ch ca (nI N))) (wr := ([wRm a clk] ++ (wTa a cI tk th hu od (nI M) ti ++ (wAl a cI be)) : va_W)) (ws' := (wRo a cI cZ cD ki pl tu le ch ca (nI N) tk th hu od (nI M) ti be clk)) ⟨hx, hb, hml, hown, hts⟩ (c_X1_size l dC dI a cI cZ cD ki pl tu le ch ca N (by omega) s.heap.size) (cwV 0 hts gX3_checkLamp_X1_size rfl rfl rfl (by decide +kernel) ⟨Nat.le_of_ble_eq_true rfl, Nat.le_of_ble_eq_true rfl⟩) hK hP hD hS hA [1, 2, 3, 4, 5, 6, 7] [0, 8, 9, 10, 11, 12, 13, 14] [0, 8, 9, 10, 11, 12, 13, 14, 1, 2, 3, 4, 5, 6, 7] rfl rfl rfl rfl (by decide) rfl rfl (ci := 1) rfl 0 rfl rfl hl.1 rfl (Nat.le_of_ble_eq_true rfl) dX3_checkLamp_9 ⟨Nat.zero_le _, Nat.zero_le _⟩ (fun H locs hP hD hS => ?_)
    refine lv_icmp_lt (tgt := 25) hx hb dX3_checkLamp_12 (by decide) (fun c_1 => ?_) (fun c_1 => ?_)
    · exact ((in_b_n (by omega) hx0).elim c_0 (fun h => h c_1)).elim
    · obtain ⟨sa, hsa⟩ := hE.2.2.2.2.2.2.2.2.1
      exact vw_throwS (A := A) (text := "there is no such lamp") (names := zx_N) hx hb hl0 hown (by decide +kernel) (by decide +kernel) hthk hthi hsa (zx_hatI hthw hE) zx_goodI hH.1 hH.2 hS (hl.1.trans hml.symm) dX3_checkLamp_15 dX3_checkLamp_18 dX3_checkLamp_19 dX3_checkLamp_21 dX3_checkLamp_24 (fun x hx => (hno x hx).elim) (Nat.le_of_ble_eq_true rfl) (Nat.le_of_ble_eq_true rfl) (Nat.le_of_ble_eq_true rfl) (Nat.le_of_ble_eq_true rfl) hlocks (zx_thrown hP hK hD hS) hS.2.2 (Nat.le_of_ble_eq_true rfl) (Nat.le_of_ble_eq_true rfl)
end
section
set_option maxHeartbeats 4000000 in
set_option maxRecDepth 100000 in
theorem c_X3_addLamp_bad (l : Launch) (hl0 : l.stackTraces = false) (dC : Nat → ClassId) (dI : Nat → Nat → Nat) (a : Nat → Nat) (cI cZ cD : ClassId) (ki pl tu le : Nat → Int32) (ch ca : Nat → UInt64) (N : Nat) (tk th hu od : Nat → Int32) (M : Nat) (ti : Int32) (be : Nat → Int32) (clk : Int32) (hN : N ≤ 40) (hM : M ≤ 30) (k : Int32) (hk : in_b k 0 2 = false) (sz : Nat) : zx_Mi l yX3_addLamp wsX3_addLamp ({ frames := 7, cells := 1, slots := 6, locals := 110 } : Room) (dC, dI) (zq_T cI cZ cD) [.ref (a 0), .int k] (wRo a cI cZ cD ki pl tu le ch ca (nI N) tk th hu od (nI M) ti be clk) zx_A sz := by
  refine vx_ofW (cc := cX3_addLamp) (maxL := 2) (ret := (some .int)) (by decide) rfl ?_
  intro p e s m args below meth c s₁ B hml hno hv
  obtain ⟨rfl, ⟨hsz, hP, hK, hD0⟩, hH, hE⟩ := hv
  have hx := B.exec
  have hb := B.bytes
  have hr := B.returns
  have hts := atoms_spec (ws := wsX3_addLamp) B.pre
  have hown : s.vm.findClass RX3 = some m.cls := findClass_of_methodNamed B.named
  have hlocks := B.notSynchronized
  subst hsz
  have hD := hD0.self (sz := s.heap.size)
  generalize hAe : va_A (wRo a cI cZ cD ki pl tu le ch ca (nI N) tk th hu od (nI M) ti be clk) s.heap.size = A at hD hH ⊢
  have hA : ∀ q : Nat, s.heap.size ≤ q → A q := fun q h => by rw [← hAe]; exact Or.inr h
  have hS : va_S A s.heap s.heap [] := va_S.rf
  have hP : va_P (dC, dI) vwCl (wRo a cI cZ cD ki pl tu le ch ca (nI N) tk th hu od (nI M) ti be clk) s.heap := hP
  have hl := lv_entry ([.ref (a 0), .int k]) (n := 2) (Nat.le_of_ble_eq_true rfl)
  rw [lg_entry_eq]
  generalize (lg_sl ([.ref (a 0), .int k]) ++ List.replicate (2 - (lg_sl ([.ref (a 0), .int k])).length) Slot.unset).toArray = ls at hl ⊢
  have hl : lv_has ls 2 [(0, .ref (a 0)), (1, .int k)] := hl
  refine lv_iload_n hx hb dX3_addLamp_0 rfl (lv_at hl 1 rfl) ?_
  refine zx_cSv (E := zx_A) (As := [.int k]) (rest := []) ⟨hx, hb, hml, hown, hts⟩ (c_X3_checkKind_bad l hl0 dC dI cI cZ cD k (by omega) s.heap.size) (va_cwS 1 hts gX3_addLamp_X3_checkKind rfl rfl rfl (by decide +kernel) ⟨Nat.le_of_ble_eq_true rfl, Nat.le_of_ble_eq_true rfl⟩) hK hP hD hS hA (hH.kept hS.2.1) hE rfl hl.1 rfl (Nat.le_of_ble_eq_true rfl) dX3_addLamp_1 ⟨Nat.le_of_ble_eq_true rfl, Nat.le_of_ble_eq_true rfl⟩ (fun H locs q9 ce hP hD hS hce hcv hcl hG => ?_)
  exact zx_on hno hlocks hP hK hD hS hce hcv hcl hG (Nat.le_of_ble_eq_true rfl) (Nat.le_of_ble_eq_true rfl)

set_option maxHeartbeats 4000000 in
set_option maxRecDepth 100000 in
theorem c_X3_addLamp_ok (l : Launch) (dC : Nat → ClassId) (dI : Nat → Nat → Nat) (a : Nat → Nat) (cI cZ cD : ClassId) (ki pl tu le : Nat → Int32) (ch ca : Nat → UInt64) (N : Nat) (tk th hu od : Nat → Int32) (M : Nat) (ti : Int32) (be : Nat → Int32) (clk : Int32) (hN : N ≤ 40) (hM : M ≤ 30) (k : Int32) (hk : in_b k 0 2 = true) (hf : N < 40) (sz : Nat) : zq_Mi l yX3_addLamp wsX3_addLamp ({ frames := 2, cells := 0, slots := 0, locals := 42 } : Room) (dC, dI) (zq_T cI cZ cD) [.ref (a 0), .int k] (wRo a cI cZ cD ki pl tu le ch ca (nI N) tk th hu od (nI M) ti be clk) (nI N) (wRo a cI cZ cD (upd ki N k) (upd pl N 0) tu le (vf_upd ch N (la_new k)) (vf_upd ca N (la_new k)) (nI (N + 1)) tk th hu od (nI M) ti be clk) sz := by
  refine Met.ofW (cc := cX3_addLamp) (maxL := 2) (ret := (some .int)) (by decide) rfl ?_
  intro p e s m args below meth c s₁ B hml hv
  obtain ⟨rfl, hsz, hP, hK, hD0⟩ := hv
  have hx := B.exec
  have hb := B.bytes
  have hr := B.returns
  have hts := atoms_spec (ws := wsX3_addLamp) B.pre
  have hown : s.vm.findClass RX3 = some m.cls := findClass_of_methodNamed B.named
  have hlocks := B.notSynchronized
  subst hsz
  have hD := hD0.self (sz := s.heap.size)
  generalize hAe : va_A (wRo a cI cZ cD ki pl tu le ch ca (nI N) tk th hu od (nI M) ti be clk) s.heap.size = A at hD ⊢
  have hA : ∀ q : Nat, s.heap.size ≤ q → A q := fun q h => by rw [← hAe]; exact Or.inr h
  have hS : va_S A s.heap s.heap [] := va_S.rf
  have hP : va_P (dC, dI) vwCl (wRo a cI cZ cD ki pl tu le ch ca (nI N) tk th hu od (nI M) ti be clk) s.heap := hP
  have hl := lv_entry ([.ref (a 0), .int k]) (n := 2) (Nat.le_of_ble_eq_true rfl)
  rw [lg_entry_eq]
  generalize (lg_sl ([.ref (a 0), .int k]) ++ List.replicate (2 - (lg_sl ([.ref (a 0), .int k])).length) Slot.unset).toArray = ls at hl ⊢
  have hl : lv_has ls 2 [(0, .ref (a 0)), (1, .int k)] := hl
  have hf_10 := hts (.fieldLink RX3 10 "LampRoom" "lamps" "LLampRoom$Lamps;") (by decide +kernel)
  have hin_3 : ∀ w ∈ wsX30, w ∈ wsX3_addLamp := by decide +kernel
  refine lv_iload_n hx hb dX3_addLamp_0 rfl (lv_at hl 1 rfl) ?_
  refine zq_cSv (As := [.int k]) (rest := []) ⟨hx, hb, hml, hown, hts⟩ (c_X3_checkKind_ok l k (by omega)) (va_cwS 1 hts gX3_addLamp_X3_checkKind rfl rfl rfl (by decide +kernel) ⟨Nat.le_of_ble_eq_true rfl, Nat.le_of_ble_eq_true rfl⟩) hP hS rfl hl.1 rfl (Nat.le_of_ble_eq_true rfl) dX3_addLamp_1 ⟨Nat.zero_le _, Nat.zero_le _⟩ (fun H locs hP hS => ?_)
  refine lv_aload_n hx hb dX3_addLamp_4 rfl (lv_at hl 0 rfl) ?_
  refine va_get (D := (dC, dI)) (ci := 3) (v := .ref (a 1)) (C := RX3) (T := TX3) (N := 4) hx hb hts hin_3 hown hK hP 0 rfl rfl 0 (by decide) hf_10 (fun _ h9 => h9) rfl dX3_addLamp_5 ?_
  refine zq_cVi (As := []) (rest := []) (wc := (wLa a cI cZ cD ki pl tu le ch ca (nI N))) (w1 := (wLa a cI cZ cD ki pl tu le ch ca (nI N))) (wr := ([wRm a clk] ++ (wTa a cI tk th hu od (nI M) ti ++ (wAl a cI be)) : va_W)) (ws' := (wRo a cI cZ cD ki pl tu le ch ca (nI N) tk th hu od (nI M) ti be clk)) ⟨hx, hb, hml, hown, hts⟩ (c_X1_size l dC dI a cI cZ cD ki pl tu le ch ca N (by omega) H.size) (cwV 0 hts gX3_addLamp_X1_size rfl rfl rfl (by decide +kernel) ⟨Nat.le_of_ble_eq_true rfl, Nat.le_of_ble_eq_true rfl⟩) hK hP hD hS hA [1, 2, 3, 4, 5, 6, 7] [0, 8, 9, 10, 11, 12, 13, 14] [0, 8, 9, 10, 11, 12, 13, 14, 1, 2, 3, 4, 5, 6, 7] rfl rfl rfl rfl (by decide) rfl rfl (ci := 1) rfl 0 rfl rfl hl.1 rfl (Nat.le_of_ble_eq_true rfl) dX3_addLamp_8 ⟨Nat.zero_le _, Nat.zero_le _⟩ (fun H locs hP hD hS => ?_)
  refine lv_bipush (v := 40) hx hb dX3_addLamp_11 (by decide) ?_
  refine lv_icmp_lt (tgt := 26) hx hb dX3_addLamp_13 (by decide) (fun c_0 => ?_) (fun c_0 => ?_)
  · have d_0 := (nI_ltI (a := N) (b := 40) (by omega) (by omega)).mp c_0
    refine lv_aload_n hx hb dX3_addLamp_26 rfl (lv_at hl 0 rfl) ?_
    refine va_get (D := (dC, dI)) (ci := 3) (v := .ref (a 1)) (C := RX3) (T := TX3) (N := 4) hx hb hts hin_3 hown hK hP 0 rfl rfl 0 (by decide) hf_10 (fun _ h9 => h9) rfl dX3_addLamp_27 ?_
    refine lv_iload_n hx hb dX3_addLamp_30 rfl (lv_at hl 1 rfl) ?_
    refine zq_cVi (As := [.int k]) (rest := []) (wc := (wLa a cI cZ cD ki pl tu le ch ca (nI N))) (w1 := (wLa a cI cZ cD (upd ki N k) (upd pl N 0) tu le (vf_upd ch N (la_new k)) (vf_upd ca N (la_new k)) (nI (N + 1)))) (wr := ([wRm a clk] ++ (wTa a cI tk th hu od (nI M) ti ++ (wAl a cI be)) : va_W)) (ws' := (wRo a cI cZ cD (upd ki N k) (upd pl N 0) tu le (vf_upd ch N (la_new k)) (vf_upd ca N (la_new k)) (nI (N + 1)) tk th hu od (nI M) ti be clk)) ⟨hx, hb, hml, hown, hts⟩ (c_X1_hangNew l dC dI a cI cZ cD ki pl tu le ch ca N (by omega) k (by omega) H.size) (cwV 1 hts gX3_addLamp_X1_hangNew rfl rfl rfl (by decide +kernel) ⟨Nat.le_of_ble_eq_true rfl, Nat.le_of_ble_eq_true rfl⟩) hK hP hD hS hA [1, 2, 3, 4, 5, 6, 7] [0, 8, 9, 10, 11, 12, 13, 14] [0, 8, 9, 10, 11, 12, 13, 14, 1, 2, 3, 4, 5, 6, 7] rfl rfl rfl rfl (by decide) rfl rfl (ci := 1) rfl 0 rfl rfl hl.1 rfl (Nat.le_of_ble_eq_true rfl) dX3_addLamp_31 ⟨Nat.zero_le _, Nat.zero_le _⟩ (fun H locs hP hD hS => ?_)
    exact W.iret (v := nI N) hx hb hr (zq_qi rfl hP hK hD hS) hS.2.2 dX3_addLamp_34
  · have d_0 := Nat.not_lt.mp (fun h => c_0 ((nI_ltI (a := N) (b := 40) (by omega) (by omega)).mpr h))
    exact absurd hf (by omega)

set_option maxHeartbeats 4000000 in
set_option maxRecDepth 100000 in
theorem c_X3_addMiner_bad (l : Launch) (hl0 : l.stackTraces = false) (dC : Nat → ClassId) (dI : Nat → Nat → Nat) (a : Nat → Nat) (cI cZ cD : ClassId) (ki pl tu le : Nat → Int32) (ch ca : Nat → UInt64) (N : Nat) (tk th hu od : Nat → Int32) (M : Nat) (ti : Int32) (be : Nat → Int32) (clk : Int32) (hN : N ≤ 40) (hM : M ≤ 30) (k : Int32) (hk : in_b k 0 2 = false) (sz : Nat) : zx_Mi l yX3_addMiner wsX3_addMiner ({ frames := 7, cells := 1, slots := 6, locals := 110 } : Room) (dC, dI) (zq_T cI cZ cD) [.ref (a 0), .int k] (wRo a cI cZ cD ki pl tu le ch ca (nI N) tk th hu od (nI M) ti be clk) zx_A sz := by
  refine vx_ofW (cc := cX3_addMiner) (maxL := 2) (ret := (some .int)) (by decide) rfl ?_
  intro p e s m args below meth c s₁ B hml hno hv
  obtain ⟨rfl, ⟨hsz, hP, hK, hD0⟩, hH, hE⟩ := hv
  have hx := B.exec
  have hb := B.bytes
  have hr := B.returns
  have hts := atoms_spec (ws := wsX3_addMiner) B.pre
  have hown : s.vm.findClass RX3 = some m.cls := findClass_of_methodNamed B.named
  have hlocks := B.notSynchronized
  subst hsz
  have hD := hD0.self (sz := s.heap.size)
  generalize hAe : va_A (wRo a cI cZ cD ki pl tu le ch ca (nI N) tk th hu od (nI M) ti be clk) s.heap.size = A at hD hH ⊢
  have hA : ∀ q : Nat, s.heap.size ≤ q → A q := fun q h => by rw [← hAe]; exact Or.inr h
  have hS : va_S A s.heap s.heap [] := va_S.rf
  have hP : va_P (dC, dI) vwCl (wRo a cI cZ cD ki pl tu le ch ca (nI N) tk th hu od (nI M) ti be clk) s.heap := hP
  have hl := lv_entry ([.ref (a 0), .int k]) (n := 2) (Nat.le_of_ble_eq_true rfl)
  rw [lg_entry_eq]
  generalize (lg_sl ([.ref (a 0), .int k]) ++ List.replicate (2 - (lg_sl ([.ref (a 0), .int k])).length) Slot.unset).toArray = ls at hl ⊢
  have hl : lv_has ls 2 [(0, .ref (a 0)), (1, .int k)] := hl
  refine lv_iload_n hx hb dX3_addMiner_0 rfl (lv_at hl 1 rfl) ?_
  refine zx_cSv (E := zx_A) (As := [.int k]) (rest := []) ⟨hx, hb, hml, hown, hts⟩ (c_X3_checkKind_bad l hl0 dC dI cI cZ cD k (by omega) s.heap.size) (va_cwS 1 hts gX3_addMiner_X3_checkKind rfl rfl rfl (by decide +kernel) ⟨Nat.le_of_ble_eq_true rfl, Nat.le_of_ble_eq_true rfl⟩) hK hP hD hS hA (hH.kept hS.2.1) hE rfl hl.1 rfl (Nat.le_of_ble_eq_true rfl) dX3_addMiner_1 ⟨Nat.le_of_ble_eq_true rfl, Nat.le_of_ble_eq_true rfl⟩ (fun H locs q9 ce hP hD hS hce hcv hcl hG => ?_)
  exact zx_on hno hlocks hP hK hD hS hce hcv hcl hG (Nat.le_of_ble_eq_true rfl) (Nat.le_of_ble_eq_true rfl)

set_option maxHeartbeats 4000000 in
set_option maxRecDepth 100000 in
theorem c_X3_addMiner_ok (l : Launch) (dC : Nat → ClassId) (dI : Nat → Nat → Nat) (a : Nat → Nat) (cI cZ cD : ClassId) (ki pl tu le : Nat → Int32) (ch ca : Nat → UInt64) (N : Nat) (tk th hu od : Nat → Int32) (M : Nat) (ti : Int32) (be : Nat → Int32) (clk : Int32) (hN : N ≤ 40) (hM : M ≤ 30) (k : Int32) (hk : in_b k 0 2 = true) (hf : M < 30) (sz : Nat) : zq_Mi l yX3_addMiner wsX3_addMiner ({ frames := 1, cells := 0, slots := 0, locals := 22 } : Room) (dC, dI) (zq_T cI cZ cD) [.ref (a 0), .int k] (wRo a cI cZ cD ki pl tu le ch ca (nI N) tk th hu od (nI M) ti be clk) (nI M) (wRo a cI cZ cD ki pl tu le ch ca (nI N) (upd tk M k) (upd th M (-1)) hu od (nI (M + 1)) ti be clk) sz := by
  refine Met.ofW (cc := cX3_addMiner) (maxL := 2) (ret := (some .int)) (by decide) rfl ?_
  intro p e s m args below meth c s₁ B hml hv
  obtain ⟨rfl, hsz, hP, hK, hD0⟩ := hv
  have hx := B.exec
  have hb := B.bytes
  have hr := B.returns
  have hts := atoms_spec (ws := wsX3_addMiner) B.pre
  have hown : s.vm.findClass RX3 = some m.cls := findClass_of_methodNamed B.named
  have hlocks := B.notSynchronized
  subst hsz
  have hD := hD0.self (sz := s.heap.size)
  generalize hAe : va_A (wRo a cI cZ cD ki pl tu le ch ca (nI N) tk th hu od (nI M) ti be clk) s.heap.size = A at hD ⊢
  have hA : ∀ q : Nat, s.heap.size ≤ q → A q := fun q h => by rw [← hAe]; exact Or.inr h
  have hS : va_S A s.heap s.heap [] := va_S.rf
  have hP : va_P (dC, dI) vwCl (wRo a cI cZ cD ki pl tu le ch ca (nI N) tk th hu od (nI M) ti be clk) s.heap := hP
  have hl := lv_entry ([.ref (a 0), .int k]) (n := 2) (Nat.le_of_ble_eq_true rfl)
  rw [lg_entry_eq]
  generalize (lg_sl ([.ref (a 0), .int k]) ++ List.replicate (2 - (lg_sl ([.ref (a 0), .int k])).length) Slot.unset).toArray = ls at hl ⊢
  have hl : lv_has ls 2 [(0, .ref (a 0)), (1, .int k)] := hl
  have hf_19 := hts (.fieldLink RX3 19 "LampRoom" "tallies" "LLampRoom$Tallies;") (by decide +kernel)
  have hin_3 : ∀ w ∈ wsX30, w ∈ wsX3_addMiner := by decide +kernel
  refine lv_iload_n hx hb dX3_addMiner_0 rfl (lv_at hl 1 rfl) ?_
  refine zq_cSv (As := [.int k]) (rest := []) ⟨hx, hb, hml, hown, hts⟩ (c_X3_checkKind_ok l k (by omega)) (va_cwS 1 hts gX3_addMiner_X3_checkKind rfl rfl rfl (by decide +kernel) ⟨Nat.le_of_ble_eq_true rfl, Nat.le_of_ble_eq_true rfl⟩) hP hS rfl hl.1 rfl (Nat.le_of_ble_eq_true rfl) dX3_addMiner_1 ⟨Nat.zero_le _, Nat.zero_le _⟩ (fun H locs hP hS => ?_)
  refine lv_aload_n hx hb dX3_addMiner_4 rfl (lv_at hl 0 rfl) ?_
  refine va_get (D := (dC, dI)) (ci := 3) (v := .ref (a 8)) (C := RX3) (T := TX3) (N := 4) hx hb hts hin_3 hown hK hP 0 rfl rfl 1 (by decide) hf_19 (fun _ h9 => h9) rfl dX3_addMiner_5 ?_
  refine zq_cVi (As := []) (rest := []) (wc := (wTa a cI tk th hu od (nI M) ti)) (w1 := (wTa a cI tk th hu od (nI M) ti)) (wr := ([wRm a clk] ++ (wLa a cI cZ cD ki pl tu le ch ca (nI N) ++ (wAl a cI be)) : va_W)) (ws' := (wRo a cI cZ cD ki pl tu le ch ca (nI N) tk th hu od (nI M) ti be clk)) ⟨hx, hb, hml, hown, hts⟩ (c_X2_size l dC dI a cI cZ cD tk th hu od M ti (by omega) H.size) (cwV 0 hts gX3_addMiner_X2_size rfl rfl rfl (by decide +kernel) ⟨Nat.le_of_ble_eq_true rfl, Nat.le_of_ble_eq_true rfl⟩) hK hP hD hS hA [8, 9, 10, 11, 12] [0, 1, 2, 3, 4, 5, 6, 7, 13, 14] [0, 1, 2, 3, 4, 5, 6, 7, 10, 11, 12, 13, 14, 8, 9] rfl rfl rfl rfl (by decide) rfl rfl (ci := 2) rfl 0 rfl rfl hl.1 rfl (Nat.le_of_ble_eq_true rfl) dX3_addMiner_8 ⟨Nat.zero_le _, Nat.zero_le _⟩ (fun H locs hP hD hS => ?_)
  refine lv_bipush (v := 30) hx hb dX3_addMiner_11 (by decide) ?_
  refine lv_icmp_lt (tgt := 26) hx hb dX3_addMiner_13 (by decide) (fun c_0 => ?_) (fun c_0 => ?_)
  · have d_0 := (nI_ltI (a := M) (b := 30) (by omega) (by omega)).mp c_0
    refine lv_aload_n hx hb dX3_addMiner_26 rfl (lv_at hl 0 rfl) ?_
    refine va_get (D := (dC, dI)) (ci := 3) (v := .ref (a 8)) (C := RX3) (T := TX3) (N := 4) hx hb hts hin_3 hown hK hP 0 rfl rfl 1 (by decide) hf_19 (fun _ h9 => h9) rfl dX3_addMiner_27 ?_
    refine lv_iload_n hx hb dX3_addMiner_30 rfl (lv_at hl 1 rfl) ?_
    refine zq_cVi (As := [.int k]) (rest := []) (wc := (wTa a cI tk th hu od (nI M) ti)) (w1 := (wTa a cI (upd tk M k) (upd th M (-1)) hu od (nI (M + 1)) ti)) (wr := ([wRm a clk] ++ (wLa a cI cZ cD ki pl tu le ch ca (nI N) ++ (wAl a cI be)) : va_W)) (ws' := (wRo a cI cZ cD ki pl tu le ch ca (nI N) (upd tk M k) (upd th M (-1)) hu od (nI (M + 1)) ti be clk)) ⟨hx, hb, hml, hown, hts⟩ (c_X2_enter l dC dI a cI cZ cD tk th hu od M ti (by omega) k (by omega) H.size) (cwV 1 hts gX3_addMiner_X2_enter rfl rfl rfl (by decide +kernel) ⟨Nat.le_of_ble_eq_true rfl, Nat.le_of_ble_eq_true rfl⟩) hK hP hD hS hA [8, 9, 10, 11, 12] [0, 1, 2, 3, 4, 5, 6, 7, 13, 14] [0, 1, 2, 3, 4, 5, 6, 7, 10, 11, 12, 13, 14, 8, 9] rfl rfl rfl rfl (by decide) rfl rfl (ci := 2) rfl 0 rfl rfl hl.1 rfl (Nat.le_of_ble_eq_true rfl) dX3_addMiner_31 ⟨Nat.zero_le _, Nat.zero_le _⟩ (fun H locs hP hD hS => ?_)
    exact W.iret (v := nI M) hx hb hr (zq_qi rfl hP hK hD hS) hS.2.2 dX3_addMiner_34
  · have d_0 := Nat.not_lt.mp (fun h => c_0 ((nI_ltI (a := M) (b := 30) (by omega) (by omega)).mpr h))
    exact absurd hf (by omega)

set_option maxHeartbeats 4000000 in
set_option maxRecDepth 100000 in
theorem c_X3_test_bad (l : Launch) (hl0 : l.stackTraces = false) (dC : Nat → ClassId) (dI : Nat → Nat → Nat) (a : Nat → Nat) (cI cZ cD : ClassId) (ki pl tu le : Nat → Int32) (ch ca : Nat → UInt64) (N : Nat) (tk th hu od : Nat → Int32) (M : Nat) (ti : Int32) (be : Nat → Int32) (clk : Int32) (hN : N ≤ 40) (hM : M ≤ 30) (x : Int32) (hx0 : in_b x 0 (nI N - 1) = false) (sz : Nat) : zx_Mi l yX3_test wsX3_test ({ frames := 7, cells := 1, slots := 6, locals := 111 } : Room) (dC, dI) (zq_T cI cZ cD) [.ref (a 0), .int x] (wRo a cI cZ cD ki pl tu le ch ca (nI N) tk th hu od (nI M) ti be clk) zx_I sz := by
  refine vx_ofW (cc := cX3_test) (maxL := 3) (ret := (some .int)) (by decide) rfl ?_
  intro p e s m args below meth c s₁ B hml hno hv
  obtain ⟨rfl, ⟨hsz, hP, hK, hD0⟩, hH, hE⟩ := hv
  have hx := B.exec
  have hb := B.bytes
  have hr := B.returns
  have hts := atoms_spec (ws := wsX3_test) B.pre
  have hown : s.vm.findClass RX3 = some m.cls := findClass_of_methodNamed B.named
  have hlocks := B.notSynchronized
  subst hsz
  have hD := hD0.self (sz := s.heap.size)
  generalize hAe : va_A (wRo a cI cZ cD ki pl tu le ch ca (nI N) tk th hu od (nI M) ti be clk) s.heap.size = A at hD hH ⊢
  have hA : ∀ q : Nat, s.heap.size ≤ q → A q := fun q h => by rw [← hAe]; exact Or.inr h
  have hS : va_S A s.heap s.heap [] := va_S.rf
  have hP : va_P (dC, dI) vwCl (wRo a cI cZ cD ki pl tu le ch ca (nI N) tk th hu od (nI M) ti be clk) s.heap := hP
  have hl := lv_entry ([.ref (a 0), .int x]) (n := 3) (Nat.le_of_ble_eq_true rfl)
  rw [lg_entry_eq]
  generalize (lg_sl ([.ref (a 0), .int x]) ++ List.replicate (3 - (lg_sl ([.ref (a 0), .int x])).length) Slot.unset).toArray = ls at hl ⊢
  have hl : lv_has ls 3 [(0, .ref (a 0)), (1, .int x)] := hl
  refine lv_aload_n hx hb dX3_test_0 rfl (lv_at hl 0 rfl) ?_
  refine lv_iload_n hx hb dX3_test_1 rfl (lv_at hl 1 rfl) ?_
  refine zx_cVv (E := zx_I) (As := [.int x]) (rest := []) (wc := (wRo a cI cZ cD ki pl tu le ch ca (nI N) tk th hu od (nI M) ti be clk)) (wr := ([] : va_W)) ⟨hx, hb, hml, hown, hts⟩ (c_X3_checkLamp_bad l hl0 dC dI a cI cZ cD ki pl tu le ch ca N tk th hu od M ti be clk (by omega) (by omega) x (by omega) s.heap.size) (cwV 1 hts gX3_test_X3_checkLamp rfl rfl rfl (by decide +kernel) ⟨Nat.le_of_ble_eq_true rfl, Nat.le_of_ble_eq_true rfl⟩) hK hP hD hS hA (hH.kept hS.2.1) hE [0, 1, 2, 3, 4, 5, 6, 7, 8, 9, 10, 11, 12, 13, 14] [] [0, 1, 2, 3, 4, 5, 6, 7, 8, 9, 10, 11, 12, 13, 14] rfl rfl rfl rfl (by decide) rfl rfl (ci := 3) rfl 0 rfl rfl hl.1 rfl (Nat.le_of_ble_eq_true rfl) dX3_test_2 ⟨Nat.le_of_ble_eq_true rfl, Nat.le_of_ble_eq_true rfl⟩ (fun H locs q9 ce hP hD hS hce hcv hcl hG => ?_)
  exact zx_on hno hlocks hP hK hD hS hce hcv hcl hG (Nat.le_of_ble_eq_true rfl) (Nat.le_of_ble_eq_true rfl)

set_option maxHeartbeats 4000000 in
set_option maxRecDepth 100000 in
theorem c_X3_mend_bad (l : Launch) (hl0 : l.stackTraces = false) (dC : Nat → ClassId) (dI : Nat → Nat → Nat) (a : Nat → Nat) (cI cZ cD : ClassId) (ki pl tu le : Nat → Int32) (ch ca : Nat → UInt64) (N : Nat) (tk th hu od : Nat → Int32) (M : Nat) (ti : Int32) (be : Nat → Int32) (clk : Int32) (hN : N ≤ 40) (hM : M ≤ 30) (x : Int32) (hx0 : in_b x 0 (nI N - 1) = false) (sz : Nat) : zx_Mi l yX3_mend wsX3_mend ({ frames := 7, cells := 1, slots := 6, locals := 111 } : Room) (dC, dI) (zq_T cI cZ cD) [.ref (a 0), .int x] (wRo a cI cZ cD ki pl tu le ch ca (nI N) tk th hu od (nI M) ti be clk) zx_I sz := by
  refine vx_ofW (cc := cX3_mend) (maxL := 3) (ret := (some .boolean)) (by decide) rfl ?_
  intro p e s m args below meth c s₁ B hml hno hv
  obtain ⟨rfl, ⟨hsz, hP, hK, hD0⟩, hH, hE⟩ := hv
  have hx := B.exec
  have hb := B.bytes
  have hr := B.returns
  have hts := atoms_spec (ws := wsX3_mend) B.pre
  have hown : s.vm.findClass RX3 = some m.cls := findClass_of_methodNamed B.named
  have hlocks := B.notSynchronized
  subst hsz
  have hD := hD0.self (sz := s.heap.size)
  generalize hAe : va_A (wRo a cI cZ cD ki pl tu le ch ca (nI N) tk th hu od (nI M) ti be clk) s.heap.size = A at hD hH ⊢
  have hA : ∀ q : Nat, s.heap.size ≤ q → A q := fun q h => by rw [← hAe]; exact Or.inr h
  have hS : va_S A s.heap s.heap [] := va_S.rf
  have hP : va_P (dC, dI) vwCl (wRo a cI cZ cD ki pl tu le ch ca (nI N) tk th hu od (nI M) ti be clk) s.heap := hP
  have hl := lv_entry ([.ref (a 0), .int x]) (n := 3) (Nat.le_of_ble_eq_true rfl)
  rw [lg_entry_eq]
  generalize (lg_sl ([.ref (a 0), .int x]) ++ List.replicate (3 - (lg_sl ([.ref (a 0), .int x])).length) Slot.unset).toArray = ls at hl ⊢
  have hl : lv_has ls 3 [(0, .ref (a 0)), (1, .int x)] := hl
  refine lv_aload_n hx hb dX3_mend_0 rfl (lv_at hl 0 rfl) ?_
  refine lv_iload_n hx hb dX3_mend_1 rfl (lv_at hl 1 rfl) ?_
  refine zx_cVv (E := zx_I) (As := [.int x]) (rest := []) (wc := (wRo a cI cZ cD ki pl tu le ch ca (nI N) tk th hu od (nI M) ti be clk)) (wr := ([] : va_W)) ⟨hx, hb, hml, hown, hts⟩ (c_X3_checkLamp_bad l hl0 dC dI a cI cZ cD ki pl tu le ch ca N tk th hu od M ti be clk (by omega) (by omega) x (by omega) s.heap.size) (cwV 1 hts gX3_mend_X3_checkLamp rfl rfl rfl (by decide +kernel) ⟨Nat.le_of_ble_eq_true rfl, Nat.le_of_ble_eq_true rfl⟩) hK hP hD hS hA (hH.kept hS.2.1) hE [0, 1, 2, 3, 4, 5, 6, 7, 8, 9, 10, 11, 12, 13, 14] [] [0, 1, 2, 3, 4, 5, 6, 7, 8, 9, 10, 11, 12, 13, 14] rfl rfl rfl rfl (by decide) rfl rfl (ci := 3) rfl 0 rfl rfl hl.1 rfl (Nat.le_of_ble_eq_true rfl) dX3_mend_2 ⟨Nat.le_of_ble_eq_true rfl, Nat.le_of_ble_eq_true rfl⟩ (fun H locs q9 ce hP hD hS hce hcv hcl hG => ?_)
  exact zx_on hno hlocks hP hK hD hS hce hcv hcl hG (Nat.le_of_ble_eq_true rfl) (Nat.le_of_ble_eq_true rfl)

set_option maxHeartbeats 4000000 in
set_option maxRecDepth 100000 in
theorem c_X3_below (l : Launch) (dC : Nat → ClassId) (dI : Nat → Nat → Nat) (a : Nat → Nat) (cI cZ cD : ClassId) (ki pl tu le : Nat → Int32) (ch ca : Nat → UInt64) (N : Nat) (tk th hu od : Nat → Int32) (M : Nat) (ti : Int32) (be : Nat → Int32) (clk : Int32) (hN : N ≤ 40) (hM : M ≤ 30) (sz : Nat) : zq_Mi l yX3_below wsX3_below ({ frames := 1, cells := 0, slots := 0, locals := 22 } : Room) (dC, dI) (zq_T cI cZ cD) [.ref (a 0)] (wRo a cI cZ cD ki pl tu le ch ca (nI N) tk th hu od (nI M) ti be clk) (nI (zf_cnt (ta_p th) M)) (wRo a cI cZ cD ki pl tu le ch ca (nI N) tk th hu od (nI M) ti be clk) sz := by
  refine Met.ofW (cc := cX3_below) (maxL := 1) (ret := (some .int)) (by decide) rfl ?_
  intro p e s m args below meth c s₁ B hml hv
  obtain ⟨rfl, hsz, hP, hK, hD0⟩ := hv
  have hx := B.exec
  have hb := B.bytes
  have hr := B.returns
  have hts := atoms_spec (ws := wsX3_below) B.pre
  have hown : s.vm.findClass RX3 = some m.cls := findClass_of_methodNamed B.named
  have hlocks := B.notSynchronized
  subst hsz
  have hD := hD0.self (sz := s.heap.size)
  generalize hAe : va_A (wRo a cI cZ cD ki pl tu le ch ca (nI N) tk th hu od (nI M) ti be clk) s.heap.size = A at hD ⊢
  have hA : ∀ q : Nat, s.heap.size ≤ q → A q := fun q h => by rw [← hAe]; exact Or.inr h
  have hS : va_S A s.heap s.heap [] := va_S.rf
  have hP : va_P (dC, dI) vwCl (wRo a cI cZ cD ki pl tu le ch ca (nI N) tk th hu od (nI M) ti be clk) s.heap := hP
  have hl := lv_entry ([.ref (a 0)]) (n := 1) (Nat.le_of_ble_eq_true rfl)
  rw [lg_entry_eq]
  generalize (lg_sl ([.ref (a 0)]) ++ List.replicate (1 - (lg_sl ([.ref (a 0)])).length) Slot.unset).toArray = ls at hl ⊢
  have hl : lv_has ls 1 [(0, .ref (a 0))] := hl
  have hf_19 := hts (.fieldLink RX3 19 "LampRoom" "tallies" "LLampRoom$Tallies;") (by decide +kernel)
  have hin_3 : ∀ w ∈ wsX30, w ∈ wsX3_below := by decide +kernel
  refine lv_aload_n hx hb dX3_below_0 rfl (lv_at hl 0 rfl) ?_
  refine va_get (D := (dC, dI)) (ci := 3) (v := .ref (a 8)) (C := RX3) (T := TX3) (N := 4) hx hb hts hin_3 hown hK hP 0 rfl rfl 1 (by decide) hf_19 (fun _ h9 => h9) rfl dX3_below_1 ?_
  refine zq_cVi (As := []) (rest := []) (wc := (wTa a cI tk th hu od (nI M) ti)) (w1 := (wTa a cI tk th hu od (nI M) ti)) (wr := ([wRm a clk] ++ (wLa a cI cZ cD ki pl tu le ch ca (nI N) ++ (wAl a cI be)) : va_W)) (ws' := (wRo a cI cZ cD ki pl tu le ch ca (nI N) tk th hu od (nI M) ti be clk)) ⟨hx, hb, hml, hown, hts⟩ (c_X2_onBoard l dC dI a cI cZ cD tk th hu od M ti (by omega) s.heap.size) (cwV 0 hts gX3_below_X2_onBoard rfl rfl rfl (by decide +kernel) ⟨Nat.le_of_ble_eq_true rfl, Nat.le_of_ble_eq_true rfl⟩) hK hP hD hS hA [8, 9, 10, 11, 12] [0, 1, 2, 3, 4, 5, 6, 7, 13, 14] [0, 1, 2, 3, 4, 5, 6, 7, 10, 11, 12, 13, 14, 8, 9] rfl rfl rfl rfl (by decide) rfl rfl (ci := 2) rfl 0 rfl rfl hl.1 rfl (Nat.le_of_ble_eq_true rfl) dX3_below_4 ⟨Nat.zero_le _, Nat.zero_le _⟩ (fun H locs hP hD hS => ?_)
  exact W.iret (v := nI (zf_cnt (ta_p th) M)) hx hb hr (zq_qi rfl hP hK hD hS) hS.2.2 dX3_below_7

set_option maxHeartbeats 4000000 in
set_option maxRecDepth 100000 in
theorem c_X3_board (l : Launch) (dC : Nat → ClassId) (dI : Nat → Nat → Nat) (a : Nat → Nat) (cI cZ cD : ClassId) (ki pl tu le : Nat → Int32) (ch ca : Nat → UInt64) (N : Nat) (tk th hu od : Nat → Int32) (M : Nat) (ti : Int32) (be : Nat → Int32) (clk : Int32) (hN : N ≤ 40) (hM : M ≤ 30) (x : Int32) (sz : Nat) : zq_Mi l yX3_board wsX3_board ({ frames := 2, cells := 0, slots := 0, locals := 45 } : Room) (dC, dI) (zq_T cI cZ cD) [.ref (a 0), .int x] (wRo a cI cZ cD ki pl tu le ch ca (nI N) tk th hu od (nI M) ti be clk) (zf_find (ta_hit th od M x) M 0) (wRo a cI cZ cD ki pl tu le ch ca (nI N) tk th hu od (nI M) ti be clk) sz := by
  refine Met.ofW (cc := cX3_board) (maxL := 2) (ret := (some .int)) (by decide) rfl ?_
  intro p e s m args below meth c s₁ B hml hv
  obtain ⟨rfl, hsz, hP, hK, hD0⟩ := hv
  have hx := B.exec
  have hb := B.bytes
  have hr := B.returns
  have hts := atoms_spec (ws := wsX3_board) B.pre
  have hown : s.vm.findClass RX3 = some m.cls := findClass_of_methodNamed B.named
  have hlocks := B.notSynchronized
  subst hsz
  have hD := hD0.self (sz := s.heap.size)
  generalize hAe : va_A (wRo a cI cZ cD ki pl tu le ch ca (nI N) tk th hu od (nI M) ti be clk) s.heap.size = A at hD ⊢
  have hA : ∀ q : Nat, s.heap.size ≤ q → A q := fun q h => by rw [← hAe]; exact Or.inr h
  have hS : va_S A s.heap s.heap [] := va_S.rf
  have hP : va_P (dC, dI) vwCl (wRo a cI cZ cD ki pl tu le ch ca (nI N) tk th hu od (nI M) ti be clk) s.heap := hP
  have hl := lv_entry ([.ref (a 0), .int x]) (n := 2) (Nat.le_of_ble_eq_true rfl)
  rw [lg_entry_eq]
  generalize (lg_sl ([.ref (a 0), .int x]) ++ List.replicate (2 - (lg_sl ([.ref (a 0), .int x])).length) Slot.unset).toArray = ls at hl ⊢
  have hl : lv_has ls 2 [(0, .ref (a 0)), (1, .int x)] := hl
  have hf_19 := hts (.fieldLink RX3 19 "LampRoom" "tallies" "LLampRoom$Tallies;") (by decide +kernel)
  have hin_3 : ∀ w ∈ wsX30, w ∈ wsX3_board := by decide +kernel
  refine lv_aload_n hx hb dX3_board_0 rfl (lv_at hl 0 rfl) ?_
  refine va_get (D := (dC, dI)) (ci := 3) (v := .ref (a 8)) (C := RX3) (T := TX3) (N := 4) hx hb hts hin_3 hown hK hP 0 rfl rfl 1 (by decide) hf_19 (fun _ h9 => h9) rfl dX3_board_1 ?_
  refine lv_iload_n hx hb dX3_board_4 rfl (lv_at hl 1 rfl) ?_
  refine zq_cVi (As := [.int x]) (rest := []) (wc := (wTa a cI tk th hu od (nI M) ti)) (w1 := (wTa a cI tk th hu od (nI M) ti)) (wr := ([wRm a clk] ++ (wLa a cI cZ cD ki pl tu le ch ca (nI N) ++ (wAl a cI be)) : va_W)) (ws' := (wRo a cI cZ cD ki pl tu le ch ca (nI N) tk th hu od (nI M) ti be clk)) ⟨hx, hb, hml, hown, hts⟩ (c_X2_onBoardAt l dC dI a cI cZ cD tk th hu od M ti (by omega) x s.heap.size) (cwV 1 hts gX3_board_X2_onBoardAt rfl rfl rfl (by decide +kernel) ⟨Nat.le_of_ble_eq_true rfl, Nat.le_of_ble_eq_true rfl⟩) hK hP hD hS hA [8, 9, 10, 11, 12] [0, 1, 2, 3, 4, 5, 6, 7, 13, 14] [0, 1, 2, 3, 4, 5, 6, 7, 10, 11, 12, 13, 14, 8, 9] rfl rfl rfl rfl (by decide) rfl rfl (ci := 2) rfl 0 rfl rfl hl.1 rfl (Nat.le_of_ble_eq_true rfl) dX3_board_5 ⟨Nat.zero_le _, Nat.zero_le _⟩ (fun H locs hP hD hS => ?_)
  exact W.iret (v := zf_find (ta_hit th od M x) M 0) hx hb hr (zq_qi rfl hP hK hD hS) hS.2.2 dX3_board_8

set_option maxHeartbeats 4000000 in
set_option maxRecDepth 100000 in
theorem c_X3_alarm (l : Launch) (dC : Nat → ClassId) (dI : Nat → Nat → Nat) (a : Nat → Nat) (cI cZ cD : ClassId) (ki pl tu le : Nat → Int32) (ch ca : Nat → UInt64) (N : Nat) (tk th hu od : Nat → Int32) (M : Nat) (ti : Int32) (be : Nat → Int32) (clk : Int32) (hN : N ≤ 40) (hM : M ≤ 30) (x : Int32) (sz : Nat) : zq_Mi l yX3_alarm wsX3_alarm ({ frames := 3, cells := 0, slots := 0, locals := 67 } : Room) (dC, dI) (zq_T cI cZ cD) [.ref (a 0), .int x] (wRo a cI cZ cD ki pl tu le ch ca (nI N) tk th hu od (nI M) ti be clk) (zf_find (al_hit be x) 60 0) (wRo a cI cZ cD ki pl tu le ch ca (nI N) tk th hu od (nI M) ti be clk) sz := by
  refine Met.ofW (cc := cX3_alarm) (maxL := 2) (ret := (some .int)) (by decide) rfl ?_
  intro p e s m args below meth c s₁ B hml hv
  obtain ⟨rfl, hsz, hP, hK, hD0⟩ := hv
  have hx := B.exec
  have hb := B.bytes
  have hr := B.returns
  have hts := atoms_spec (ws := wsX3_alarm) B.pre
  have hown : s.vm.findClass RX3 = some m.cls := findClass_of_methodNamed B.named
  have hlocks := B.notSynchronized
  subst hsz
  have hD := hD0.self (sz := s.heap.size)
  generalize hAe : va_A (wRo a cI cZ cD ki pl tu le ch ca (nI N) tk th hu od (nI M) ti be clk) s.heap.size = A at hD ⊢
  have hA : ∀ q : Nat, s.heap.size ≤ q → A q := fun q h => by rw [← hAe]; exact Or.inr h
  have hS : va_S A s.heap s.heap [] := va_S.rf
  have hP : va_P (dC, dI) vwCl (wRo a cI cZ cD ki pl tu le ch ca (nI N) tk th hu od (nI M) ti be clk) s.heap := hP
  have hl := lv_entry ([.ref (a 0), .int x]) (n := 2) (Nat.le_of_ble_eq_true rfl)
  rw [lg_entry_eq]
  generalize (lg_sl ([.ref (a 0), .int x]) ++ List.replicate (2 - (lg_sl ([.ref (a 0), .int x])).length) Slot.unset).toArray = ls at hl ⊢
  have hl : lv_has ls 2 [(0, .ref (a 0)), (1, .int x)] := hl
  have hf_26 := hts (.fieldLink RX3 26 "LampRoom" "alarms" "LLampRoom$Alarms;") (by decide +kernel)
  have hin_3 : ∀ w ∈ wsX30, w ∈ wsX3_alarm := by decide +kernel
  refine lv_aload_n hx hb dX3_alarm_0 rfl (lv_at hl 0 rfl) ?_
  refine va_get (D := (dC, dI)) (ci := 3) (v := .ref (a 13)) (C := RX3) (T := TX3) (N := 4) hx hb hts hin_3 hown hK hP 0 rfl rfl 2 (by decide) hf_26 (fun _ h9 => h9) rfl dX3_alarm_1 ?_
  refine lv_iload_n hx hb dX3_alarm_4 rfl (lv_at hl 1 rfl) ?_
  refine zq_cVi (As := [.int x]) (rest := []) (wc := (wAl a cI be)) (w1 := (wAl a cI be)) (wr := ([wRm a clk] ++ (wLa a cI cZ cD ki pl tu le ch ca (nI N) ++ (wTa a cI tk th hu od (nI M) ti)) : va_W)) (ws' := (wRo a cI cZ cD ki pl tu le ch ca (nI N) tk th hu od (nI M) ti be clk)) ⟨hx, hb, hml, hown, hts⟩ (c_X0_lastingAt l dC dI a cI cZ cD be x s.heap.size) (cwV 1 hts gX3_alarm_X0_lastingAt rfl rfl rfl (by decide +kernel) ⟨Nat.le_of_ble_eq_true rfl, Nat.le_of_ble_eq_true rfl⟩) hK hP hD hS hA [13, 14] [0, 1, 2, 3, 4, 5, 6, 7, 8, 9, 10, 11, 12] [0, 1, 2, 3, 4, 5, 6, 7, 8, 9, 10, 11, 12, 13, 14] rfl rfl rfl rfl (by decide) rfl rfl (ci := 0) rfl 0 rfl rfl hl.1 rfl (Nat.le_of_ble_eq_true rfl) dX3_alarm_5 ⟨Nat.zero_le _, Nat.zero_le _⟩ (fun H locs hP hD hS => ?_)
  exact W.iret (v := zf_find (al_hit be x) 60 0) hx hb hr (zq_qi rfl hP hK hD hS) hS.2.2 dX3_alarm_8

set_option maxHeartbeats 4000000 in
set_option maxRecDepth 100000 in
theorem c_X3_lampOf_bad (l : Launch) (hl0 : l.stackTraces = false) (dC : Nat → ClassId) (dI : Nat → Nat → Nat) (a : Nat → Nat) (cI cZ cD : ClassId) (ki pl tu le : Nat → Int32) (ch ca : Nat → UInt64) (N : Nat) (tk th hu od : Nat → Int32) (M : Nat) (ti : Int32) (be : Nat → Int32) (clk : Int32) (hN : N ≤ 40) (hM : M ≤ 30) (x : Int32) (hx0 : in_b x 0 (nI M - 1) = false) (sz : Nat) : zx_Mi l yX3_lampOf wsX3_lampOf ({ frames := 7, cells := 1, slots := 6, locals := 111 } : Room) (dC, dI) (zq_T cI cZ cD) [.ref (a 0), .int x] (wRo a cI cZ cD ki pl tu le ch ca (nI N) tk th hu od (nI M) ti be clk) zx_I sz := by
  refine vx_ofW (cc := cX3_lampOf) (maxL := 2) (ret := (some .int)) (by decide) rfl ?_
  intro p e s m args below meth c s₁ B hml hno hv
  obtain ⟨rfl, ⟨hsz, hP, hK, hD0⟩, hH, hE⟩ := hv
  have hx := B.exec
  have hb := B.bytes
  have hr := B.returns
  have hts := atoms_spec (ws := wsX3_lampOf) B.pre
  have hown : s.vm.findClass RX3 = some m.cls := findClass_of_methodNamed B.named
  have hlocks := B.notSynchronized
  subst hsz
  have hD := hD0.self (sz := s.heap.size)
  generalize hAe : va_A (wRo a cI cZ cD ki pl tu le ch ca (nI N) tk th hu od (nI M) ti be clk) s.heap.size = A at hD hH ⊢
  have hA : ∀ q : Nat, s.heap.size ≤ q → A q := fun q h => by rw [← hAe]; exact Or.inr h
  have hS : va_S A s.heap s.heap [] := va_S.rf
  have hP : va_P (dC, dI) vwCl (wRo a cI cZ cD ki pl tu le ch ca (nI N) tk th hu od (nI M) ti be clk) s.heap := hP
  have hl := lv_entry ([.ref (a 0), .int x]) (n := 2) (Nat.le_of_ble_eq_true rfl)
  rw [lg_entry_eq]
  generalize (lg_sl ([.ref (a 0), .int x]) ++ List.replicate (2 - (lg_sl ([.ref (a 0), .int x])).length) Slot.unset).toArray = ls at hl ⊢
  have hl : lv_has ls 2 [(0, .ref (a 0)), (1, .int x)] := hl
  refine lv_aload_n hx hb dX3_lampOf_0 rfl (lv_at hl 0 rfl) ?_
  refine lv_iload_n hx hb dX3_lampOf_1 rfl (lv_at hl 1 rfl) ?_
  refine zx_cVv (E := zx_I) (As := [.int x]) (rest := []) (wc := (wRo a cI cZ cD ki pl tu le ch ca (nI N) tk th hu od (nI M) ti be clk)) (wr := ([] : va_W)) ⟨hx, hb, hml, hown, hts⟩ (c_X3_checkMiner_bad l hl0 dC dI a cI cZ cD ki pl tu le ch ca N tk th hu od M ti be clk (by omega) (by omega) x (by omega) s.heap.size) (cwV 1 hts gX3_lampOf_X3_checkMiner rfl rfl rfl (by decide +kernel) ⟨Nat.le_of_ble_eq_true rfl, Nat.le_of_ble_eq_true rfl⟩) hK hP hD hS hA (hH.kept hS.2.1) hE [0, 1, 2, 3, 4, 5, 6, 7, 8, 9, 10, 11, 12, 13, 14] [] [0, 1, 2, 3, 4, 5, 6, 7, 8, 9, 10, 11, 12, 13, 14] rfl rfl rfl rfl (by decide) rfl rfl (ci := 3) rfl 0 rfl rfl hl.1 rfl (Nat.le_of_ble_eq_true rfl) dX3_lampOf_2 ⟨Nat.le_of_ble_eq_true rfl, Nat.le_of_ble_eq_true rfl⟩ (fun H locs q9 ce hP hD hS hce hcv hcl hG => ?_)
  exact zx_on hno hlocks hP hK hD hS hce hcv hcl hG (Nat.le_of_ble_eq_true rfl) (Nat.le_of_ble_eq_true rfl)

set_option maxHeartbeats 4000000 in
set_option maxRecDepth 100000 in
theorem c_X3_placeOf_bad (l : Launch) (hl0 : l.stackTraces = false) (dC : Nat → ClassId) (dI : Nat → Nat → Nat) (a : Nat → Nat) (cI cZ cD : ClassId) (ki pl tu le : Nat → Int32) (ch ca : Nat → UInt64) (N : Nat) (tk th hu od : Nat → Int32) (M : Nat) (ti : Int32) (be : Nat → Int32) (clk : Int32) (hN : N ≤ 40) (hM : M ≤ 30) (x : Int32) (hx0 : in_b x 0 (nI N - 1) = false) (sz : Nat) : zx_Mi l yX3_placeOf wsX3_placeOf ({ frames := 7, cells := 1, slots := 6, locals := 111 } : Room) (dC, dI) (zq_T cI cZ cD) [.ref (a 0), .int x] (wRo a cI cZ cD ki pl tu le ch ca (nI N) tk th hu od (nI M) ti be clk) zx_I sz := by
  refine vx_ofW (cc := cX3_placeOf) (maxL := 2) (ret := (some .int)) (by decide) rfl ?_
  intro p e s m args below meth c s₁ B hml hno hv
  obtain ⟨rfl, ⟨hsz, hP, hK, hD0⟩, hH, hE⟩ := hv
  have hx := B.exec
  have hb := B.bytes
  have hr := B.returns
  have hts := atoms_spec (ws := wsX3_placeOf) B.pre
  have hown : s.vm.findClass RX3 = some m.cls := findClass_of_methodNamed B.named
  have hlocks := B.notSynchronized
  subst hsz
  have hD := hD0.self (sz := s.heap.size)
  generalize hAe : va_A (wRo a cI cZ cD ki pl tu le ch ca (nI N) tk th hu od (nI M) ti be clk) s.heap.size = A at hD hH ⊢
  have hA : ∀ q : Nat, s.heap.size ≤ q → A q := fun q h => by rw [← hAe]; exact Or.inr h
  have hS : va_S A s.heap s.heap [] := va_S.rf
  have hP : va_P (dC, dI) vwCl (wRo a cI cZ cD ki pl tu le ch ca (nI N) tk th hu od (nI M) ti be clk) s.heap := hP
  have hl := lv_entry ([.ref (a 0), .int x]) (n := 2) (Nat.le_of_ble_eq_true rfl)
  rw [lg_entry_eq]
  generalize (lg_sl ([.ref (a 0), .int x]) ++ List.replicate (2 - (lg_sl ([.ref (a 0), .int x])).length) Slot.unset).toArray = ls at hl ⊢
  have hl : lv_has ls 2 [(0, .ref (a 0)), (1, .int x)] := hl
  refine lv_aload_n hx hb dX3_placeOf_0 rfl (lv_at hl 0 rfl) ?_
  refine lv_iload_n hx hb dX3_placeOf_1 rfl (lv_at hl 1 rfl) ?_
  refine zx_cVv (E := zx_I) (As := [.int x]) (rest := []) (wc := (wRo a cI cZ cD ki pl tu le ch ca (nI N) tk th hu od (nI M) ti be clk)) (wr := ([] : va_W)) ⟨hx, hb, hml, hown, hts⟩ (c_X3_checkLamp_bad l hl0 dC dI a cI cZ cD ki pl tu le ch ca N tk th hu od M ti be clk (by omega) (by omega) x (by omega) s.heap.size) (cwV 1 hts gX3_placeOf_X3_checkLamp rfl rfl rfl (by decide +kernel) ⟨Nat.le_of_ble_eq_true rfl, Nat.le_of_ble_eq_true rfl⟩) hK hP hD hS hA (hH.kept hS.2.1) hE [0, 1, 2, 3, 4, 5, 6, 7, 8, 9, 10, 11, 12, 13, 14] [] [0, 1, 2, 3, 4, 5, 6, 7, 8, 9, 10, 11, 12, 13, 14] rfl rfl rfl rfl (by decide) rfl rfl (ci := 3) rfl 0 rfl rfl hl.1 rfl (Nat.le_of_ble_eq_true rfl) dX3_placeOf_2 ⟨Nat.le_of_ble_eq_true rfl, Nat.le_of_ble_eq_true rfl⟩ (fun H locs q9 ce hP hD hS hce hcv hcl hG => ?_)
  exact zx_on hno hlocks hP hK hD hS hce hcv hcl hG (Nat.le_of_ble_eq_true rfl) (Nat.le_of_ble_eq_true rfl)

set_option maxHeartbeats 4000000 in
set_option maxRecDepth 100000 in
theorem c_X3_ready_bad (l : Launch) (hl0 : l.stackTraces = false) (dC : Nat → ClassId) (dI : Nat → Nat → Nat) (a : Nat → Nat) (cI cZ cD : ClassId) (ki pl tu le : Nat → Int32) (ch ca : Nat → UInt64) (N : Nat) (tk th hu od : Nat → Int32) (M : Nat) (ti : Int32) (be : Nat → Int32) (clk : Int32) (hN : N ≤ 40) (hM : M ≤ 30) (k : Int32) (hk : in_b k 0 2 = false) (sz : Nat) : zx_Mi l yX3_ready wsX3_ready ({ frames := 7, cells := 1, slots := 6, locals := 110 } : Room) (dC, dI) (zq_T cI cZ cD) [.ref (a 0), .int k] (wRo a cI cZ cD ki pl tu le ch ca (nI N) tk th hu od (nI M) ti be clk) zx_A sz := by
  refine vx_ofW (cc := cX3_ready) (maxL := 2) (ret := (some .int)) (by decide) rfl ?_
  intro p e s m args below meth c s₁ B hml hno hv
  obtain ⟨rfl, ⟨hsz, hP, hK, hD0⟩, hH, hE⟩ := hv
  have hx := B.exec
  have hb := B.bytes
  have hr := B.returns
  have hts := atoms_spec (ws := wsX3_ready) B.pre
  have hown : s.vm.findClass RX3 = some m.cls := findClass_of_methodNamed B.named
  have hlocks := B.notSynchronized
  subst hsz
  have hD := hD0.self (sz := s.heap.size)
  generalize hAe : va_A (wRo a cI cZ cD ki pl tu le ch ca (nI N) tk th hu od (nI M) ti be clk) s.heap.size = A at hD hH ⊢
  have hA : ∀ q : Nat, s.heap.size ≤ q → A q := fun q h => by rw [← hAe]; exact Or.inr h
  have hS : va_S A s.heap s.heap [] := va_S.rf
  have hP : va_P (dC, dI) vwCl (wRo a cI cZ cD ki pl tu le ch ca (nI N) tk th hu od (nI M) ti be clk) s.heap := hP
  have hl := lv_entry ([.ref (a 0), .int k]) (n := 2) (Nat.le_of_ble_eq_true rfl)
  rw [lg_entry_eq]
  generalize (lg_sl ([.ref (a 0), .int k]) ++ List.replicate (2 - (lg_sl ([.ref (a 0), .int k])).length) Slot.unset).toArray = ls at hl ⊢
  have hl : lv_has ls 2 [(0, .ref (a 0)), (1, .int k)] := hl
  refine lv_iload_n hx hb dX3_ready_0 rfl (lv_at hl 1 rfl) ?_
  refine zx_cSv (E := zx_A) (As := [.int k]) (rest := []) ⟨hx, hb, hml, hown, hts⟩ (c_X3_checkKind_bad l hl0 dC dI cI cZ cD k (by omega) s.heap.size) (va_cwS 1 hts gX3_ready_X3_checkKind rfl rfl rfl (by decide +kernel) ⟨Nat.le_of_ble_eq_true rfl, Nat.le_of_ble_eq_true rfl⟩) hK hP hD hS hA (hH.kept hS.2.1) hE rfl hl.1 rfl (Nat.le_of_ble_eq_true rfl) dX3_ready_1 ⟨Nat.le_of_ble_eq_true rfl, Nat.le_of_ble_eq_true rfl⟩ (fun H locs q9 ce hP hD hS hce hcv hcl hG => ?_)
  exact zx_on hno hlocks hP hK hD hS hce hcv hcl hG (Nat.le_of_ble_eq_true rfl) (Nat.le_of_ble_eq_true rfl)

set_option maxHeartbeats 4000000 in
set_option maxRecDepth 100000 in
theorem c_X3_lampOf_ok (l : Launch) (dC : Nat → ClassId) (dI : Nat → Nat → Nat) (a : Nat → Nat) (cI cZ cD : ClassId) (ki pl tu le : Nat → Int32) (ch ca : Nat → UInt64) (N : Nat) (tk th hu od : Nat → Int32) (M : Nat) (ti : Int32) (be : Nat → Int32) (clk : Int32) (hN : N ≤ 40) (hM : M ≤ 30) (mi : Nat) (hm : mi < M) (sz : Nat) : zq_Mi l yX3_lampOf wsX3_lampOf ({ frames := 2, cells := 0, slots := 0, locals := 41 } : Room) (dC, dI) (zq_T cI cZ cD) [.ref (a 0), .int (nI mi)] (wRo a cI cZ cD ki pl tu le ch ca (nI N) tk th hu od (nI M) ti be clk) (th mi) (wRo a cI cZ cD ki pl tu le ch ca (nI N) tk th hu od (nI M) ti be clk) sz := by
  refine Met.ofW (cc := cX3_lampOf) (maxL := 2) (ret := (some .int)) (by decide) rfl ?_
  intro p e s m args below meth c s₁ B hml hv
  obtain ⟨rfl, hsz, hP, hK, hD0⟩ := hv
  have hx := B.exec
  have hb := B.bytes
  have hr := B.returns
  have hts := atoms_spec (ws := wsX3_lampOf) B.pre
  have hown : s.vm.findClass RX3 = some m.cls := findClass_of_methodNamed B.named
  have hlocks := B.notSynchronized
  subst hsz
  have hD := hD0.self (sz := s.heap.size)
  generalize hAe : va_A (wRo a cI cZ cD ki pl tu le ch ca (nI N) tk th hu od (nI M) ti be clk) s.heap.size = A at hD ⊢
  have hA : ∀ q : Nat, s.heap.size ≤ q → A q := fun q h => by rw [← hAe]; exact Or.inr h
  have hS : va_S A s.heap s.heap [] := va_S.rf
  have hP : va_P (dC, dI) vwCl (wRo a cI cZ cD ki pl tu le ch ca (nI N) tk th hu od (nI M) ti be clk) s.heap := hP
  have hl := lv_entry ([.ref (a 0), .int (nI mi)]) (n := 2) (Nat.le_of_ble_eq_true rfl)
  rw [lg_entry_eq]
  generalize (lg_sl ([.ref (a 0), .int (nI mi)]) ++ List.replicate (2 - (lg_sl ([.ref (a 0), .int (nI mi)])).length) Slot.unset).toArray = ls at hl ⊢
  have hl : lv_has ls 2 [(0, .ref (a 0)), (1, .int (nI mi))] := hl
  have hf_19 := hts (.fieldLink RX3 19 "LampRoom" "tallies" "LLampRoom$Tallies;") (by decide +kernel)
  have hin_3 : ∀ w ∈ wsX30, w ∈ wsX3_lampOf := by decide +kernel
  refine lv_aload_n hx hb dX3_lampOf_0 rfl (lv_at hl 0 rfl) ?_
  refine lv_iload_n hx hb dX3_lampOf_1 rfl (lv_at hl 1 rfl) ?_
  refine zq_cVv (As := [.int (nI mi)]) (rest := []) (wc := (wRo a cI cZ cD ki pl tu le ch ca (nI N) tk th hu od (nI M) ti be clk)) (w1 := (wRo a cI cZ cD ki pl tu le ch ca (nI N) tk th hu od (nI M) ti be clk)) (wr := ([] : va_W)) (ws' := (wRo a cI cZ cD ki pl tu le ch ca (nI N) tk th hu od (nI M) ti be clk)) ⟨hx, hb, hml, hown, hts⟩ (c_X3_checkMiner_ok l dC dI a cI cZ cD ki pl tu le ch ca N tk th hu od M ti be clk (by omega) (by omega) mi (by omega) s.heap.size) (cwV 1 hts gX3_lampOf_X3_checkMiner rfl rfl rfl (by decide +kernel) ⟨Nat.le_of_ble_eq_true rfl, Nat.le_of_ble_eq_true rfl⟩) hK hP hD hS hA [0, 1, 2, 3, 4, 5, 6, 7, 8, 9, 10, 11, 12, 13, 14] [] [0, 1, 2, 3, 4, 5, 6, 7, 8, 9, 10, 11, 12, 13, 14] rfl rfl rfl rfl (by decide) rfl rfl (ci := 3) rfl 0 rfl rfl hl.1 rfl (Nat.le_of_ble_eq_true rfl) dX3_lampOf_2 ⟨Nat.zero_le _, Nat.zero_le _⟩ (fun H locs hP hD hS => ?_)
  refine lv_aload_n hx hb dX3_lampOf_5 rfl (lv_at hl 0 rfl) ?_
  refine va_get (D := (dC, dI)) (ci := 3) (v := .ref (a 8)) (C := RX3) (T := TX3) (N := 4) hx hb hts hin_3 hown hK hP 0 rfl rfl 1 (by decide) hf_19 (fun _ h9 => h9) rfl dX3_lampOf_6 ?_
  refine lv_iload_n hx hb dX3_lampOf_9 rfl (lv_at hl 1 rfl) ?_
  refine zq_cVi (As := [.int (nI mi)]) (rest := []) (wc := (wTa a cI tk th hu od (nI M) ti)) (w1 := (wTa a cI tk th hu od (nI M) ti)) (wr := ([wRm a clk] ++ (wLa a cI cZ cD ki pl tu le ch ca (nI N) ++ (wAl a cI be)) : va_W)) (ws' := (wRo a cI cZ cD ki pl tu le ch ca (nI N) tk th hu od (nI M) ti be clk)) ⟨hx, hb, hml, hown, hts⟩ (c_X2_lampHeld l dC dI a cI cZ cD tk th hu od M ti (by omega) mi (by omega) H.size) (cwV 1 hts gX3_lampOf_X2_lampHeld rfl rfl rfl (by decide +kernel) ⟨Nat.le_of_ble_eq_true rfl, Nat.le_of_ble_eq_true rfl⟩) hK hP hD hS hA [8, 9, 10, 11, 12] [0, 1, 2, 3, 4, 5, 6, 7, 13, 14] [0, 1, 2, 3, 4, 5, 6, 7, 10, 11, 12, 13, 14, 8, 9] rfl rfl rfl rfl (by decide) rfl rfl (ci := 2) rfl 0 rfl rfl hl.1 rfl (Nat.le_of_ble_eq_true rfl) dX3_lampOf_10 ⟨Nat.zero_le _, Nat.zero_le _⟩ (fun H locs hP hD hS => ?_)
  exact W.iret (v := th mi) hx hb hr (zq_qi rfl hP hK hD hS) hS.2.2 dX3_lampOf_13

set_option maxHeartbeats 4000000 in
set_option maxRecDepth 100000 in
theorem c_X3_hoursBelow_ok (l : Launch) (dC : Nat → ClassId) (dI : Nat → Nat → Nat) (a : Nat → Nat) (cI cZ cD : ClassId) (ki pl tu le : Nat → Int32) (ch ca : Nat → UInt64) (N : Nat) (tk th hu od : Nat → Int32) (M : Nat) (ti : Int32) (be : Nat → Int32) (clk : Int32) (hN : N ≤ 40) (hM : M ≤ 30) (mi : Nat) (hm : mi < M) (sz : Nat) : zq_Mi l yX3_hoursBelow wsX3_hoursBelow ({ frames := 2, cells := 0, slots := 0, locals := 41 } : Room) (dC, dI) (zq_T cI cZ cD) [.ref (a 0), .int (nI mi)] (wRo a cI cZ cD ki pl tu le ch ca (nI N) tk th hu od (nI M) ti be clk) (if th mi = -1 then -1 else clk - hu mi) (wRo a cI cZ cD ki pl tu le ch ca (nI N) tk th hu od (nI M) ti be clk) sz := by
  refine Met.ofW (cc := cX3_hoursBelow) (maxL := 2) (ret := (some .int)) (by decide) rfl ?_
  intro p e s m args below meth c s₁ B hml hv
  obtain ⟨rfl, hsz, hP, hK, hD0⟩ := hv
  have hx := B.exec
  have hb := B.bytes
  have hr := B.returns
  have hts := atoms_spec (ws := wsX3_hoursBelow) B.pre
  have hown : s.vm.findClass RX3 = some m.cls := findClass_of_methodNamed B.named
  have hlocks := B.notSynchronized
  subst hsz
  have hD := hD0.self (sz := s.heap.size)
  generalize hAe : va_A (wRo a cI cZ cD ki pl tu le ch ca (nI N) tk th hu od (nI M) ti be clk) s.heap.size = A at hD ⊢
  have hA : ∀ q : Nat, s.heap.size ≤ q → A q := fun q h => by rw [← hAe]; exact Or.inr h
  have hS : va_S A s.heap s.heap [] := va_S.rf
  have hP : va_P (dC, dI) vwCl (wRo a cI cZ cD ki pl tu le ch ca (nI N) tk th hu od (nI M) ti be clk) s.heap := hP
  have hl := lv_entry ([.ref (a 0), .int (nI mi)]) (n := 2) (Nat.le_of_ble_eq_true rfl)
  rw [lg_entry_eq]
  generalize (lg_sl ([.ref (a 0), .int (nI mi)]) ++ List.replicate (2 - (lg_sl ([.ref (a 0), .int (nI mi)])).length) Slot.unset).toArray = ls at hl ⊢
  have hl : lv_has ls 2 [(0, .ref (a 0)), (1, .int (nI mi))] := hl
  have hf_19 := hts (.fieldLink RX3 19 "LampRoom" "tallies" "LLampRoom$Tallies;") (by decide +kernel)
  have hin_3 : ∀ w ∈ wsX30, w ∈ wsX3_hoursBelow := by decide +kernel
  have hf_30 := hts (.fieldLink RX3 30 "LampRoom" "clock" "I") (by decide +kernel)
  refine lv_aload_n hx hb dX3_hoursBelow_0 rfl (lv_at hl 0 rfl) ?_
  refine lv_iload_n hx hb dX3_hoursBelow_1 rfl (lv_at hl 1 rfl) ?_
  refine zq_cVv (As := [.int (nI mi)]) (rest := []) (wc := (wRo a cI cZ cD ki pl tu le ch ca (nI N) tk th hu od (nI M) ti be clk)) (w1 := (wRo a cI cZ cD ki pl tu le ch ca (nI N) tk th hu od (nI M) ti be clk)) (wr := ([] : va_W)) (ws' := (wRo a cI cZ cD ki pl tu le ch ca (nI N) tk th hu od (nI M) ti be clk)) ⟨hx, hb, hml, hown, hts⟩ (c_X3_checkMiner_ok l dC dI a cI cZ cD ki pl tu le ch ca N tk th hu od M ti be clk (by omega) (by omega) mi (by omega) s.heap.size) (cwV 1 hts gX3_hoursBelow_X3_checkMiner rfl rfl rfl (by decide +kernel) ⟨Nat.le_of_ble_eq_true rfl, Nat.le_of_ble_eq_true rfl⟩) hK hP hD hS hA [0, 1, 2, 3, 4, 5, 6, 7, 8, 9, 10, 11, 12, 13, 14] [] [0, 1, 2, 3, 4, 5, 6, 7, 8, 9, 10, 11, 12, 13, 14] rfl rfl rfl rfl (by decide) rfl rfl (ci := 3) rfl 0 rfl rfl hl.1 rfl (Nat.le_of_ble_eq_true rfl) dX3_hoursBelow_2 ⟨Nat.zero_le _, Nat.zero_le _⟩ (fun H locs hP hD hS => ?_)
  refine lv_aload_n hx hb dX3_hoursBelow_5 rfl (lv_at hl 0 rfl) ?_
  refine va_get (D := (dC, dI)) (ci := 3) (v := .ref (a 8)) (C := RX3) (T := TX3) (N := 4) hx hb hts hin_3 hown hK hP 0 rfl rfl 1 (by decide) hf_19 (fun _ h9 => h9) rfl dX3_hoursBelow_6 ?_
  refine lv_iload_n hx hb dX3_hoursBelow_9 rfl (lv_at hl 1 rfl) ?_
  refine zq_cVi (As := [.int (nI mi)]) (rest := []) (wc := (wTa a cI tk th hu od (nI M) ti)) (w1 := (wTa a cI tk th hu od (nI M) ti)) (wr := ([wRm a clk] ++ (wLa a cI cZ cD ki pl tu le ch ca (nI N) ++ (wAl a cI be)) : va_W)) (ws' := (wRo a cI cZ cD ki pl tu le ch ca (nI N) tk th hu od (nI M) ti be clk)) ⟨hx, hb, hml, hown, hts⟩ (c_X2_lampHeld l dC dI a cI cZ cD tk th hu od M ti (by omega) mi (by omega) H.size) (cwV 1 hts gX3_hoursBelow_X2_lampHeld rfl rfl rfl (by decide +kernel) ⟨Nat.le_of_ble_eq_true rfl, Nat.le_of_ble_eq_true rfl⟩) hK hP hD hS hA [8, 9, 10, 11, 12] [0, 1, 2, 3, 4, 5, 6, 7, 13, 14] [0, 1, 2, 3, 4, 5, 6, 7, 10, 11, 12, 13, 14, 8, 9] rfl rfl rfl rfl (by decide) rfl rfl (ci := 2) rfl 0 rfl rfl hl.1 rfl (Nat.le_of_ble_eq_true rfl) dX3_hoursBelow_10 ⟨Nat.zero_le _, Nat.zero_le _⟩ (fun H locs hP hD hS => ?_)
  refine lv_iconst (v := (-1)) hx hb dX3_hoursBelow_13 (by decide) ?_
  refine lv_icmp_ne (tgt := 21) hx hb dX3_hoursBelow_14 (by decide) (fun c_0 => ?_) (fun c_0 => ?_)
  · refine lv_aload_n hx hb dX3_hoursBelow_21 rfl (lv_at hl 0 rfl) ?_
    refine va_get (D := (dC, dI)) (ci := 3) (v := .int clk) (C := RX3) (T := TX3) (N := 4) hx hb hts hin_3 hown hK hP 0 rfl rfl 3 (by decide) hf_30 (fun _ h9 => h9) rfl dX3_hoursBelow_22 ?_
    refine lv_aload_n hx hb dX3_hoursBelow_25 rfl (lv_at hl 0 rfl) ?_
    refine va_get (D := (dC, dI)) (ci := 3) (v := .ref (a 8)) (C := RX3) (T := TX3) (N := 4) hx hb hts hin_3 hown hK hP 0 rfl rfl 1 (by decide) hf_19 (fun _ h9 => h9) rfl dX3_hoursBelow_26 ?_
    refine lv_iload_n hx hb dX3_hoursBelow_29 rfl (lv_at hl 1 rfl) ?_
    refine zq_cVi (As := [.int (nI mi)]) (rest := [.int clk]) (wc := (wTa a cI tk th hu od (nI M) ti)) (w1 := (wTa a cI tk th hu od (nI M) ti)) (wr := ([wRm a clk] ++ (wLa a cI cZ cD ki pl tu le ch ca (nI N) ++ (wAl a cI be)) : va_W)) (ws' := (wRo a cI cZ cD ki pl tu le ch ca (nI N) tk th hu od (nI M) ti be clk)) ⟨hx, hb, hml, hown, hts⟩ (c_X2_hungAt l dC dI a cI cZ cD tk th hu od M ti (by omega) mi (by omega) H.size) (cwV 1 hts gX3_hoursBelow_X2_hungAt rfl rfl rfl (by decide +kernel) ⟨Nat.le_of_ble_eq_true rfl, Nat.le_of_ble_eq_true rfl⟩) hK hP hD hS hA [8, 9, 10, 11, 12] [0, 1, 2, 3, 4, 5, 6, 7, 13, 14] [0, 1, 2, 3, 4, 5, 6, 7, 10, 11, 12, 13, 14, 8, 9] rfl rfl rfl rfl (by decide) rfl rfl (ci := 2) rfl 0 rfl rfl hl.1 rfl (Nat.le_of_ble_eq_true rfl) dX3_hoursBelow_30 ⟨Nat.zero_le _, Nat.zero_le _⟩ (fun H locs hP hD hS => ?_)
    refine t_isub hx hb dX3_hoursBelow_33 (v := clk - (hu mi)) (rfl) ?_
    exact W.iret (v := clk - (hu mi)) hx hb hr (zq_qi (by first | with_reducible rfl | simp [c_0]) hP hK hD hS) hS.2.2 dX3_hoursBelow_34
  · refine lv_iconst (v := (-1)) hx hb dX3_hoursBelow_17 (by decide) ?_
    refine lv_goto (tgt := 34) hx hb dX3_hoursBelow_18 (by decide) ?_
    exact W.iret (v := (-1)) hx hb hr (zq_qi (by first | with_reducible rfl | simp [c_0]) hP hK hD hS) hS.2.2 dX3_hoursBelow_34

set_option maxHeartbeats 4000000 in
set_option maxRecDepth 100000 in
theorem c_X3_placeOf_ok (l : Launch) (dC : Nat → ClassId) (dI : Nat → Nat → Nat) (a : Nat → Nat) (cI cZ cD : ClassId) (ki pl tu le : Nat → Int32) (ch ca : Nat → UInt64) (N : Nat) (tk th hu od : Nat → Int32) (M : Nat) (ti : Int32) (be : Nat → Int32) (clk : Int32) (hN : N ≤ 40) (hM : M ≤ 30) (j : Nat) (hj : j < N) (sz : Nat) : zq_Mi l yX3_placeOf wsX3_placeOf ({ frames := 2, cells := 0, slots := 0, locals := 41 } : Room) (dC, dI) (zq_T cI cZ cD) [.ref (a 0), .int (nI j)] (wRo a cI cZ cD ki pl tu le ch ca (nI N) tk th hu od (nI M) ti be clk) (pl j) (wRo a cI cZ cD ki pl tu le ch ca (nI N) tk th hu od (nI M) ti be clk) sz := by
  refine Met.ofW (cc := cX3_placeOf) (maxL := 2) (ret := (some .int)) (by decide) rfl ?_
  intro p e s m args below meth c s₁ B hml hv
  obtain ⟨rfl, hsz, hP, hK, hD0⟩ := hv
  have hx := B.exec
  have hb := B.bytes
  have hr := B.returns
  have hts := atoms_spec (ws := wsX3_placeOf) B.pre
  have hown : s.vm.findClass RX3 = some m.cls := findClass_of_methodNamed B.named
  have hlocks := B.notSynchronized
  subst hsz
  have hD := hD0.self (sz := s.heap.size)
  generalize hAe : va_A (wRo a cI cZ cD ki pl tu le ch ca (nI N) tk th hu od (nI M) ti be clk) s.heap.size = A at hD ⊢
  have hA : ∀ q : Nat, s.heap.size ≤ q → A q := fun q h => by rw [← hAe]; exact Or.inr h
  have hS : va_S A s.heap s.heap [] := va_S.rf
  have hP : va_P (dC, dI) vwCl (wRo a cI cZ cD ki pl tu le ch ca (nI N) tk th hu od (nI M) ti be clk) s.heap := hP
  have hl := lv_entry ([.ref (a 0), .int (nI j)]) (n := 2) (Nat.le_of_ble_eq_true rfl)
  rw [lg_entry_eq]
  generalize (lg_sl ([.ref (a 0), .int (nI j)]) ++ List.replicate (2 - (lg_sl ([.ref (a 0), .int (nI j)])).length) Slot.unset).toArray = ls at hl ⊢
  have hl : lv_has ls 2 [(0, .ref (a 0)), (1, .int (nI j))] := hl
  have hf_10 := hts (.fieldLink RX3 10 "LampRoom" "lamps" "LLampRoom$Lamps;") (by decide +kernel)
  have hin_3 : ∀ w ∈ wsX30, w ∈ wsX3_placeOf := by decide +kernel
  refine lv_aload_n hx hb dX3_placeOf_0 rfl (lv_at hl 0 rfl) ?_
  refine lv_iload_n hx hb dX3_placeOf_1 rfl (lv_at hl 1 rfl) ?_
  refine zq_cVv (As := [.int (nI j)]) (rest := []) (wc := (wRo a cI cZ cD ki pl tu le ch ca (nI N) tk th hu od (nI M) ti be clk)) (w1 := (wRo a cI cZ cD ki pl tu le ch ca (nI N) tk th hu od (nI M) ti be clk)) (wr := ([] : va_W)) (ws' := (wRo a cI cZ cD ki pl tu le ch ca (nI N) tk th hu od (nI M) ti be clk)) ⟨hx, hb, hml, hown, hts⟩ (c_X3_checkLamp_ok l dC dI a cI cZ cD ki pl tu le ch ca N tk th hu od M ti be clk (by omega) (by omega) j (by omega) s.heap.size) (cwV 1 hts gX3_placeOf_X3_checkLamp rfl rfl rfl (by decide +kernel) ⟨Nat.le_of_ble_eq_true rfl, Nat.le_of_ble_eq_true rfl⟩) hK hP hD hS hA [0, 1, 2, 3, 4, 5, 6, 7, 8, 9, 10, 11, 12, 13, 14] [] [0, 1, 2, 3, 4, 5, 6, 7, 8, 9, 10, 11, 12, 13, 14] rfl rfl rfl rfl (by decide) rfl rfl (ci := 3) rfl 0 rfl rfl hl.1 rfl (Nat.le_of_ble_eq_true rfl) dX3_placeOf_2 ⟨Nat.zero_le _, Nat.zero_le _⟩ (fun H locs hP hD hS => ?_)
  refine lv_aload_n hx hb dX3_placeOf_5 rfl (lv_at hl 0 rfl) ?_
  refine va_get (D := (dC, dI)) (ci := 3) (v := .ref (a 1)) (C := RX3) (T := TX3) (N := 4) hx hb hts hin_3 hown hK hP 0 rfl rfl 0 (by decide) hf_10 (fun _ h9 => h9) rfl dX3_placeOf_6 ?_
  refine lv_iload_n hx hb dX3_placeOf_9 rfl (lv_at hl 1 rfl) ?_
  refine zq_cVi (As := [.int (nI j)]) (rest := []) (wc := (wLa a cI cZ cD ki pl tu le ch ca (nI N))) (w1 := (wLa a cI cZ cD ki pl tu le ch ca (nI N))) (wr := ([wRm a clk] ++ (wTa a cI tk th hu od (nI M) ti ++ (wAl a cI be)) : va_W)) (ws' := (wRo a cI cZ cD ki pl tu le ch ca (nI N) tk th hu od (nI M) ti be clk)) ⟨hx, hb, hml, hown, hts⟩ (c_X1_placeAt l dC dI a cI cZ cD ki pl tu le ch ca N (by omega) j (by omega) H.size) (cwV 1 hts gX3_placeOf_X1_placeAt rfl rfl rfl (by decide +kernel) ⟨Nat.le_of_ble_eq_true rfl, Nat.le_of_ble_eq_true rfl⟩) hK hP hD hS hA [1, 2, 3, 4, 5, 6, 7] [0, 8, 9, 10, 11, 12, 13, 14] [0, 8, 9, 10, 11, 12, 13, 14, 1, 2, 3, 4, 5, 6, 7] rfl rfl rfl rfl (by decide) rfl rfl (ci := 1) rfl 0 rfl rfl hl.1 rfl (Nat.le_of_ble_eq_true rfl) dX3_placeOf_10 ⟨Nat.zero_le _, Nat.zero_le _⟩ (fun H locs hP hD hS => ?_)
  exact W.iret (v := pl j) hx hb hr (zq_qi rfl hP hK hD hS) hS.2.2 dX3_placeOf_13

set_option maxHeartbeats 4000000 in
set_option maxRecDepth 100000 in
theorem c_X3_turnsOf_ok (l : Launch) (dC : Nat → ClassId) (dI : Nat → Nat → Nat) (a : Nat → Nat) (cI cZ cD : ClassId) (ki pl tu le : Nat → Int32) (ch ca : Nat → UInt64) (N : Nat) (tk th hu od : Nat → Int32) (M : Nat) (ti : Int32) (be : Nat → Int32) (clk : Int32) (hN : N ≤ 40) (hM : M ≤ 30) (j : Nat) (hj : j < N) (sz : Nat) : zq_Mi l yX3_turnsOf wsX3_turnsOf ({ frames := 2, cells := 0, slots := 0, locals := 41 } : Room) (dC, dI) (zq_T cI cZ cD) [.ref (a 0), .int (nI j)] (wRo a cI cZ cD ki pl tu le ch ca (nI N) tk th hu od (nI M) ti be clk) (tu j) (wRo a cI cZ cD ki pl tu le ch ca (nI N) tk th hu od (nI M) ti be clk) sz := by
  refine Met.ofW (cc := cX3_turnsOf) (maxL := 2) (ret := (some .int)) (by decide) rfl ?_
  intro p e s m args below meth c s₁ B hml hv
  obtain ⟨rfl, hsz, hP, hK, hD0⟩ := hv
  have hx := B.exec
  have hb := B.bytes
  have hr := B.returns
  have hts := atoms_spec (ws := wsX3_turnsOf) B.pre
  have hown : s.vm.findClass RX3 = some m.cls := findClass_of_methodNamed B.named
  have hlocks := B.notSynchronized
  subst hsz
  have hD := hD0.self (sz := s.heap.size)
  generalize hAe : va_A (wRo a cI cZ cD ki pl tu le ch ca (nI N) tk th hu od (nI M) ti be clk) s.heap.size = A at hD ⊢
  have hA : ∀ q : Nat, s.heap.size ≤ q → A q := fun q h => by rw [← hAe]; exact Or.inr h
  have hS : va_S A s.heap s.heap [] := va_S.rf
  have hP : va_P (dC, dI) vwCl (wRo a cI cZ cD ki pl tu le ch ca (nI N) tk th hu od (nI M) ti be clk) s.heap := hP
  have hl := lv_entry ([.ref (a 0), .int (nI j)]) (n := 2) (Nat.le_of_ble_eq_true rfl)
  rw [lg_entry_eq]
  generalize (lg_sl ([.ref (a 0), .int (nI j)]) ++ List.replicate (2 - (lg_sl ([.ref (a 0), .int (nI j)])).length) Slot.unset).toArray = ls at hl ⊢
  have hl : lv_has ls 2 [(0, .ref (a 0)), (1, .int (nI j))] := hl
  have hf_10 := hts (.fieldLink RX3 10 "LampRoom" "lamps" "LLampRoom$Lamps;") (by decide +kernel)
  have hin_3 : ∀ w ∈ wsX30, w ∈ wsX3_turnsOf := by decide +kernel
  refine lv_aload_n hx hb dX3_turnsOf_0 rfl (lv_at hl 0 rfl) ?_
  refine lv_iload_n hx hb dX3_turnsOf_1 rfl (lv_at hl 1 rfl) ?_
  refine zq_cVv (As := [.int (nI j)]) (rest := []) (wc := (wRo a cI cZ cD ki pl tu le ch ca (nI N) tk th hu od (nI M) ti be clk)) (w1 := (wRo a cI cZ cD ki pl tu le ch ca (nI N) tk th hu od (nI M) ti be clk)) (wr := ([] : va_W)) (ws' := (wRo a cI cZ cD ki pl tu le ch ca (nI N) tk th hu od (nI M) ti be clk)) ⟨hx, hb, hml, hown, hts⟩ (c_X3_checkLamp_ok l dC dI a cI cZ cD ki pl tu le ch ca N tk th hu od M ti be clk (by omega) (by omega) j (by omega) s.heap.size) (cwV 1 hts gX3_turnsOf_X3_checkLamp rfl rfl rfl (by decide +kernel) ⟨Nat.le_of_ble_eq_true rfl, Nat.le_of_ble_eq_true rfl⟩) hK hP hD hS hA [0, 1, 2, 3, 4, 5, 6, 7, 8, 9, 10, 11, 12, 13, 14] [] [0, 1, 2, 3, 4, 5, 6, 7, 8, 9, 10, 11, 12, 13, 14] rfl rfl rfl rfl (by decide) rfl rfl (ci := 3) rfl 0 rfl rfl hl.1 rfl (Nat.le_of_ble_eq_true rfl) dX3_turnsOf_2 ⟨Nat.zero_le _, Nat.zero_le _⟩ (fun H locs hP hD hS => ?_)
  refine lv_aload_n hx hb dX3_turnsOf_5 rfl (lv_at hl 0 rfl) ?_
  refine va_get (D := (dC, dI)) (ci := 3) (v := .ref (a 1)) (C := RX3) (T := TX3) (N := 4) hx hb hts hin_3 hown hK hP 0 rfl rfl 0 (by decide) hf_10 (fun _ h9 => h9) rfl dX3_turnsOf_6 ?_
  refine lv_iload_n hx hb dX3_turnsOf_9 rfl (lv_at hl 1 rfl) ?_
  refine zq_cVi (As := [.int (nI j)]) (rest := []) (wc := (wLa a cI cZ cD ki pl tu le ch ca (nI N))) (w1 := (wLa a cI cZ cD ki pl tu le ch ca (nI N))) (wr := ([wRm a clk] ++ (wTa a cI tk th hu od (nI M) ti ++ (wAl a cI be)) : va_W)) (ws' := (wRo a cI cZ cD ki pl tu le ch ca (nI N) tk th hu od (nI M) ti be clk)) ⟨hx, hb, hml, hown, hts⟩ (c_X1_turnsAt l dC dI a cI cZ cD ki pl tu le ch ca N (by omega) j (by omega) H.size) (cwV 1 hts gX3_turnsOf_X1_turnsAt rfl rfl rfl (by decide +kernel) ⟨Nat.le_of_ble_eq_true rfl, Nat.le_of_ble_eq_true rfl⟩) hK hP hD hS hA [1, 2, 3, 4, 5, 6, 7] [0, 8, 9, 10, 11, 12, 13, 14] [0, 8, 9, 10, 11, 12, 13, 14, 1, 2, 3, 4, 5, 6, 7] rfl rfl rfl rfl (by decide) rfl rfl (ci := 1) rfl 0 rfl rfl hl.1 rfl (Nat.le_of_ble_eq_true rfl) dX3_turnsOf_10 ⟨Nat.zero_le _, Nat.zero_le _⟩ (fun H locs hP hD hS => ?_)
  exact W.iret (v := tu j) hx hb hr (zq_qi rfl hP hK hD hS) hS.2.2 dX3_turnsOf_13

set_option maxHeartbeats 4000000 in
set_option maxRecDepth 100000 in
theorem c_X3_chargeOf_ok (l : Launch) (dC : Nat → ClassId) (dI : Nat → Nat → Nat) (a : Nat → Nat) (cI cZ cD : ClassId) (ki pl tu le : Nat → Int32) (ch ca : Nat → UInt64) (N : Nat) (tk th hu od : Nat → Int32) (M : Nat) (ti : Int32) (be : Nat → Int32) (clk : Int32) (hN : N ≤ 40) (hM : M ≤ 30) (j : Nat) (hj : j < N) (sz : Nat) : zq_Md l yX3_chargeOf wsX3_chargeOf ({ frames := 2, cells := 0, slots := 0, locals := 41 } : Room) (dC, dI) (zq_T cI cZ cD) [.ref (a 0), .int (nI j)] (wRo a cI cZ cD ki pl tu le ch ca (nI N) tk th hu od (nI M) ti be clk) (ch j) (wRo a cI cZ cD ki pl tu le ch ca (nI N) tk th hu od (nI M) ti be clk) sz := by
  refine Met.ofW (cc := cX3_chargeOf) (maxL := 2) (ret := (some .double)) (by decide) rfl ?_
  intro p e s m args below meth c s₁ B hml hv
  obtain ⟨rfl, hsz, hP, hK, hD0⟩ := hv
  have hx := B.exec
  have hb := B.bytes
  have hr := B.returns
  have hts := atoms_spec (ws := wsX3_chargeOf) B.pre
  have hown : s.vm.findClass RX3 = some m.cls := findClass_of_methodNamed B.named
  have hlocks := B.notSynchronized
  subst hsz
  have hD := hD0.self (sz := s.heap.size)
  generalize hAe : va_A (wRo a cI cZ cD ki pl tu le ch ca (nI N) tk th hu od (nI M) ti be clk) s.heap.size = A at hD ⊢
  have hA : ∀ q : Nat, s.heap.size ≤ q → A q := fun q h => by rw [← hAe]; exact Or.inr h
  have hS : va_S A s.heap s.heap [] := va_S.rf
  have hP : va_P (dC, dI) vwCl (wRo a cI cZ cD ki pl tu le ch ca (nI N) tk th hu od (nI M) ti be clk) s.heap := hP
  have hl := lv_entry ([.ref (a 0), .int (nI j)]) (n := 2) (Nat.le_of_ble_eq_true rfl)
  rw [lg_entry_eq]
  generalize (lg_sl ([.ref (a 0), .int (nI j)]) ++ List.replicate (2 - (lg_sl ([.ref (a 0), .int (nI j)])).length) Slot.unset).toArray = ls at hl ⊢
  have hl : lv_has ls 2 [(0, .ref (a 0)), (1, .int (nI j))] := hl
  have hf_10 := hts (.fieldLink RX3 10 "LampRoom" "lamps" "LLampRoom$Lamps;") (by decide +kernel)
  have hin_3 : ∀ w ∈ wsX30, w ∈ wsX3_chargeOf := by decide +kernel
  refine lv_aload_n hx hb dX3_chargeOf_0 rfl (lv_at hl 0 rfl) ?_
  refine lv_iload_n hx hb dX3_chargeOf_1 rfl (lv_at hl 1 rfl) ?_
  refine zq_cVv (As := [.int (nI j)]) (rest := []) (wc := (wRo a cI cZ cD ki pl tu le ch ca (nI N) tk th hu od (nI M) ti be clk)) (w1 := (wRo a cI cZ cD ki pl tu le ch ca (nI N) tk th hu od (nI M) ti be clk)) (wr := ([] : va_W)) (ws' := (wRo a cI cZ cD ki pl tu le ch ca (nI N) tk th hu od (nI M) ti be clk)) ⟨hx, hb, hml, hown, hts⟩ (c_X3_checkLamp_ok l dC dI a cI cZ cD ki pl tu le ch ca N tk th hu od M ti be clk (by omega) (by omega) j (by omega) s.heap.size) (cwV 1 hts gX3_chargeOf_X3_checkLamp rfl rfl rfl (by decide +kernel) ⟨Nat.le_of_ble_eq_true rfl, Nat.le_of_ble_eq_true rfl⟩) hK hP hD hS hA [0, 1, 2, 3, 4, 5, 6, 7, 8, 9, 10, 11, 12, 13, 14] [] [0, 1, 2, 3, 4, 5, 6, 7, 8, 9, 10, 11, 12, 13, 14] rfl rfl rfl rfl (by decide) rfl rfl (ci := 3) rfl 0 rfl rfl hl.1 rfl (Nat.le_of_ble_eq_true rfl) dX3_chargeOf_2 ⟨Nat.zero_le _, Nat.zero_le _⟩ (fun H locs hP hD hS => ?_)
  refine lv_aload_n hx hb dX3_chargeOf_5 rfl (lv_at hl 0 rfl) ?_
  refine va_get (D := (dC, dI)) (ci := 3) (v := .ref (a 1)) (C := RX3) (T := TX3) (N := 4) hx hb hts hin_3 hown hK hP 0 rfl rfl 0 (by decide) hf_10 (fun _ h9 => h9) rfl dX3_chargeOf_6 ?_
  refine lv_iload_n hx hb dX3_chargeOf_9 rfl (lv_at hl 1 rfl) ?_
  refine zq_cVd (As := [.int (nI j)]) (rest := []) (wc := (wLa a cI cZ cD ki pl tu le ch ca (nI N))) (w1 := (wLa a cI cZ cD ki pl tu le ch ca (nI N))) (wr := ([wRm a clk] ++ (wTa a cI tk th hu od (nI M) ti ++ (wAl a cI be)) : va_W)) (ws' := (wRo a cI cZ cD ki pl tu le ch ca (nI N) tk th hu od (nI M) ti be clk)) ⟨hx, hb, hml, hown, hts⟩ (c_X1_chargeAt l dC dI a cI cZ cD ki pl tu le ch ca N (by omega) j (by omega) H.size) (cwV 1 hts gX3_chargeOf_X1_chargeAt rfl rfl rfl (by decide +kernel) ⟨Nat.le_of_ble_eq_true rfl, Nat.le_of_ble_eq_true rfl⟩) hK hP hD hS hA [1, 2, 3, 4, 5, 6, 7] [0, 8, 9, 10, 11, 12, 13, 14] [0, 8, 9, 10, 11, 12, 13, 14, 1, 2, 3, 4, 5, 6, 7] rfl rfl rfl rfl (by decide) rfl rfl (ci := 1) rfl 0 rfl rfl hl.1 rfl (Nat.le_of_ble_eq_true rfl) dX3_chargeOf_10 ⟨Nat.zero_le _, Nat.zero_le _⟩ (fun H locs hP hD hS => ?_)
  exact W.dret (v := ch j) hx hb hr (zq_qd rfl hP hK hD hS) hS.2.2 dX3_chargeOf_13

set_option maxHeartbeats 4000000 in
set_option maxRecDepth 100000 in
theorem c_X3_capacityOf_ok (l : Launch) (dC : Nat → ClassId) (dI : Nat → Nat → Nat) (a : Nat → Nat) (cI cZ cD : ClassId) (ki pl tu le : Nat → Int32) (ch ca : Nat → UInt64) (N : Nat) (tk th hu od : Nat → Int32) (M : Nat) (ti : Int32) (be : Nat → Int32) (clk : Int32) (hN : N ≤ 40) (hM : M ≤ 30) (j : Nat) (hj : j < N) (sz : Nat) : zq_Md l yX3_capacityOf wsX3_capacityOf ({ frames := 2, cells := 0, slots := 0, locals := 41 } : Room) (dC, dI) (zq_T cI cZ cD) [.ref (a 0), .int (nI j)] (wRo a cI cZ cD ki pl tu le ch ca (nI N) tk th hu od (nI M) ti be clk) (ca j) (wRo a cI cZ cD ki pl tu le ch ca (nI N) tk th hu od (nI M) ti be clk) sz := by
  refine Met.ofW (cc := cX3_capacityOf) (maxL := 2) (ret := (some .double)) (by decide) rfl ?_
  intro p e s m args below meth c s₁ B hml hv
  obtain ⟨rfl, hsz, hP, hK, hD0⟩ := hv
  have hx := B.exec
  have hb := B.bytes
  have hr := B.returns
  have hts := atoms_spec (ws := wsX3_capacityOf) B.pre
  have hown : s.vm.findClass RX3 = some m.cls := findClass_of_methodNamed B.named
  have hlocks := B.notSynchronized
  subst hsz
  have hD := hD0.self (sz := s.heap.size)
  generalize hAe : va_A (wRo a cI cZ cD ki pl tu le ch ca (nI N) tk th hu od (nI M) ti be clk) s.heap.size = A at hD ⊢
  have hA : ∀ q : Nat, s.heap.size ≤ q → A q := fun q h => by rw [← hAe]; exact Or.inr h
  have hS : va_S A s.heap s.heap [] := va_S.rf
  have hP : va_P (dC, dI) vwCl (wRo a cI cZ cD ki pl tu le ch ca (nI N) tk th hu od (nI M) ti be clk) s.heap := hP
  have hl := lv_entry ([.ref (a 0), .int (nI j)]) (n := 2) (Nat.le_of_ble_eq_true rfl)
  rw [lg_entry_eq]
  generalize (lg_sl ([.ref (a 0), .int (nI j)]) ++ List.replicate (2 - (lg_sl ([.ref (a 0), .int (nI j)])).length) Slot.unset).toArray = ls at hl ⊢
  have hl : lv_has ls 2 [(0, .ref (a 0)), (1, .int (nI j))] := hl
  have hf_10 := hts (.fieldLink RX3 10 "LampRoom" "lamps" "LLampRoom$Lamps;") (by decide +kernel)
  have hin_3 : ∀ w ∈ wsX30, w ∈ wsX3_capacityOf := by decide +kernel
  refine lv_aload_n hx hb dX3_capacityOf_0 rfl (lv_at hl 0 rfl) ?_
  refine lv_iload_n hx hb dX3_capacityOf_1 rfl (lv_at hl 1 rfl) ?_
  refine zq_cVv (As := [.int (nI j)]) (rest := []) (wc := (wRo a cI cZ cD ki pl tu le ch ca (nI N) tk th hu od (nI M) ti be clk)) (w1 := (wRo a cI cZ cD ki pl tu le ch ca (nI N) tk th hu od (nI M) ti be clk)) (wr := ([] : va_W)) (ws' := (wRo a cI cZ cD ki pl tu le ch ca (nI N) tk th hu od (nI M) ti be clk)) ⟨hx, hb, hml, hown, hts⟩ (c_X3_checkLamp_ok l dC dI a cI cZ cD ki pl tu le ch ca N tk th hu od M ti be clk (by omega) (by omega) j (by omega) s.heap.size) (cwV 1 hts gX3_capacityOf_X3_checkLamp rfl rfl rfl (by decide +kernel) ⟨Nat.le_of_ble_eq_true rfl, Nat.le_of_ble_eq_true rfl⟩) hK hP hD hS hA [0, 1, 2, 3, 4, 5, 6, 7, 8, 9, 10, 11, 12, 13, 14] [] [0, 1, 2, 3, 4, 5, 6, 7, 8, 9, 10, 11, 12, 13, 14] rfl rfl rfl rfl (by decide) rfl rfl (ci := 3) rfl 0 rfl rfl hl.1 rfl (Nat.le_of_ble_eq_true rfl) dX3_capacityOf_2 ⟨Nat.zero_le _, Nat.zero_le _⟩ (fun H locs hP hD hS => ?_)
  refine lv_aload_n hx hb dX3_capacityOf_5 rfl (lv_at hl 0 rfl) ?_
  refine va_get (D := (dC, dI)) (ci := 3) (v := .ref (a 1)) (C := RX3) (T := TX3) (N := 4) hx hb hts hin_3 hown hK hP 0 rfl rfl 0 (by decide) hf_10 (fun _ h9 => h9) rfl dX3_capacityOf_6 ?_
  refine lv_iload_n hx hb dX3_capacityOf_9 rfl (lv_at hl 1 rfl) ?_
  refine zq_cVd (As := [.int (nI j)]) (rest := []) (wc := (wLa a cI cZ cD ki pl tu le ch ca (nI N))) (w1 := (wLa a cI cZ cD ki pl tu le ch ca (nI N))) (wr := ([wRm a clk] ++ (wTa a cI tk th hu od (nI M) ti ++ (wAl a cI be)) : va_W)) (ws' := (wRo a cI cZ cD ki pl tu le ch ca (nI N) tk th hu od (nI M) ti be clk)) ⟨hx, hb, hml, hown, hts⟩ (c_X1_capacityAt l dC dI a cI cZ cD ki pl tu le ch ca N (by omega) j (by omega) H.size) (cwV 1 hts gX3_capacityOf_X1_capacityAt rfl rfl rfl (by decide +kernel) ⟨Nat.le_of_ble_eq_true rfl, Nat.le_of_ble_eq_true rfl⟩) hK hP hD hS hA [1, 2, 3, 4, 5, 6, 7] [0, 8, 9, 10, 11, 12, 13, 14] [0, 8, 9, 10, 11, 12, 13, 14, 1, 2, 3, 4, 5, 6, 7] rfl rfl rfl rfl (by decide) rfl rfl (ci := 1) rfl 0 rfl rfl hl.1 rfl (Nat.le_of_ble_eq_true rfl) dX3_capacityOf_10 ⟨Nat.zero_le _, Nat.zero_le _⟩ (fun H locs hP hD hS => ?_)
  exact W.dret (v := ca j) hx hb hr (zq_qd rfl hP hK hD hS) hS.2.2 dX3_capacityOf_13

set_option maxHeartbeats 4000000 in
set_option maxRecDepth 100000 in
theorem c_X3_ready_ok (l : Launch) (dC : Nat → ClassId) (dI : Nat → Nat → Nat) (a : Nat → Nat) (cI cZ cD : ClassId) (ki pl tu le : Nat → Int32) (ch ca : Nat → UInt64) (N : Nat) (tk th hu od : Nat → Int32) (M : Nat) (ti : Int32) (be : Nat → Int32) (clk : Int32) (hN : N ≤ 40) (hM : M ≤ 30) (k : Int32) (hk : in_b k 0 2 = true) (sz : Nat) : zq_Mi l yX3_ready wsX3_ready ({ frames := 2, cells := 0, slots := 0, locals := 45 } : Room) (dC, dI) (zq_T cI cZ cD) [.ref (a 0), .int k] (wRo a cI cZ cD ki pl tu le ch ca (nI N) tk th hu od (nI M) ti be clk) (nI (zf_cnt (la_is ki pl ch k) N)) (wRo a cI cZ cD ki pl tu le ch ca (nI N) tk th hu od (nI M) ti be clk) sz := by
  refine Met.ofW (cc := cX3_ready) (maxL := 2) (ret := (some .int)) (by decide) rfl ?_
  intro p e s m args below meth c s₁ B hml hv
  obtain ⟨rfl, hsz, hP, hK, hD0⟩ := hv
  have hx := B.exec
  have hb := B.bytes
  have hr := B.returns
  have hts := atoms_spec (ws := wsX3_ready) B.pre
  have hown : s.vm.findClass RX3 = some m.cls := findClass_of_methodNamed B.named
  have hlocks := B.notSynchronized
  subst hsz
  have hD := hD0.self (sz := s.heap.size)
  generalize hAe : va_A (wRo a cI cZ cD ki pl tu le ch ca (nI N) tk th hu od (nI M) ti be clk) s.heap.size = A at hD ⊢
  have hA : ∀ q : Nat, s.heap.size ≤ q → A q := fun q h => by rw [← hAe]; exact Or.inr h
  have hS : va_S A s.heap s.heap [] := va_S.rf
  have hP : va_P (dC, dI) vwCl (wRo a cI cZ cD ki pl tu le ch ca (nI N) tk th hu od (nI M) ti be clk) s.heap := hP
  have hl := lv_entry ([.ref (a 0), .int k]) (n := 2) (Nat.le_of_ble_eq_true rfl)
  rw [lg_entry_eq]
  generalize (lg_sl ([.ref (a 0), .int k]) ++ List.replicate (2 - (lg_sl ([.ref (a 0), .int k])).length) Slot.unset).toArray = ls at hl ⊢
  have hl : lv_has ls 2 [(0, .ref (a 0)), (1, .int k)] := hl
  have hf_10 := hts (.fieldLink RX3 10 "LampRoom" "lamps" "LLampRoom$Lamps;") (by decide +kernel)
  have hin_3 : ∀ w ∈ wsX30, w ∈ wsX3_ready := by decide +kernel
  refine lv_iload_n hx hb dX3_ready_0 rfl (lv_at hl 1 rfl) ?_
  refine zq_cSv (As := [.int k]) (rest := []) ⟨hx, hb, hml, hown, hts⟩ (c_X3_checkKind_ok l k (by omega)) (va_cwS 1 hts gX3_ready_X3_checkKind rfl rfl rfl (by decide +kernel) ⟨Nat.le_of_ble_eq_true rfl, Nat.le_of_ble_eq_true rfl⟩) hP hS rfl hl.1 rfl (Nat.le_of_ble_eq_true rfl) dX3_ready_1 ⟨Nat.zero_le _, Nat.zero_le _⟩ (fun H locs hP hS => ?_)
  refine lv_aload_n hx hb dX3_ready_4 rfl (lv_at hl 0 rfl) ?_
  refine va_get (D := (dC, dI)) (ci := 3) (v := .ref (a 1)) (C := RX3) (T := TX3) (N := 4) hx hb hts hin_3 hown hK hP 0 rfl rfl 0 (by decide) hf_10 (fun _ h9 => h9) rfl dX3_ready_5 ?_
  refine lv_iload_n hx hb dX3_ready_8 rfl (lv_at hl 1 rfl) ?_
  refine zq_cVi (As := [.int k]) (rest := []) (wc := (wLa a cI cZ cD ki pl tu le ch ca (nI N))) (w1 := (wLa a cI cZ cD ki pl tu le ch ca (nI N))) (wr := ([wRm a clk] ++ (wTa a cI tk th hu od (nI M) ti ++ (wAl a cI be)) : va_W)) (ws' := (wRo a cI cZ cD ki pl tu le ch ca (nI N) tk th hu od (nI M) ti be clk)) ⟨hx, hb, hml, hown, hts⟩ (c_X1_countIssuable l dC dI a cI cZ cD ki pl tu le ch ca N (by omega) k H.size) (cwV 1 hts gX3_ready_X1_countIssuable rfl rfl rfl (by decide +kernel) ⟨Nat.le_of_ble_eq_true rfl, Nat.le_of_ble_eq_true rfl⟩) hK hP hD hS hA [1, 2, 3, 4, 5, 6, 7] [0, 8, 9, 10, 11, 12, 13, 14] [0, 8, 9, 10, 11, 12, 13, 14, 1, 2, 3, 4, 5, 6, 7] rfl rfl rfl rfl (by decide) rfl rfl (ci := 1) rfl 0 rfl rfl hl.1 rfl (Nat.le_of_ble_eq_true rfl) dX3_ready_9 ⟨Nat.zero_le _, Nat.zero_le _⟩ (fun H locs hP hD hS => ?_)
  exact W.iret (v := nI (zf_cnt (la_is ki pl ch k) N)) hx hb hr (zq_qi rfl hP hK hD hS) hS.2.2 dX3_ready_12

set_option maxHeartbeats 4000000 in
set_option maxRecDepth 100000 in
theorem c_X3_lightLeft_off (l : Launch) (dC : Nat → ClassId) (dI : Nat → Nat → Nat) (a : Nat → Nat) (cI cZ cD : ClassId) (ki pl tu le : Nat → Int32) (ch ca : Nat → UInt64) (N : Nat) (tk th hu od : Nat → Int32) (M : Nat) (ti : Int32) (be : Nat → Int32) (clk : Int32) (hN : N ≤ 40) (hM : M ≤ 30) (mi : Nat) (hm : mi < M) (hla : th mi = -1) (sz : Nat) : zq_Mi l yX3_lightLeft wsX3_lightLeft ({ frames := 2, cells := 0, slots := 0, locals := 41 } : Room) (dC, dI) (zq_T cI cZ cD) [.ref (a 0), .int (nI mi)] (wRo a cI cZ cD ki pl tu le ch ca (nI N) tk th hu od (nI M) ti be clk) (-1) (wRo a cI cZ cD ki pl tu le ch ca (nI N) tk th hu od (nI M) ti be clk) sz := by
  refine Met.ofW (cc := cX3_lightLeft) (maxL := 3) (ret := (some .int)) (by decide) rfl ?_
  intro p e s m args below meth c s₁ B hml hv
  obtain ⟨rfl, hsz, hP, hK, hD0⟩ := hv
  have hx := B.exec
  have hb := B.bytes
  have hr := B.returns
  have hts := atoms_spec (ws := wsX3_lightLeft) B.pre
  have hown : s.vm.findClass RX3 = some m.cls := findClass_of_methodNamed B.named
  have hlocks := B.notSynchronized
  subst hsz
  have hD := hD0.self (sz := s.heap.size)
  generalize hAe : va_A (wRo a cI cZ cD ki pl tu le ch ca (nI N) tk th hu od (nI M) ti be clk) s.heap.size = A at hD ⊢
  have hA : ∀ q : Nat, s.heap.size ≤ q → A q := fun q h => by rw [← hAe]; exact Or.inr h
  have hS : va_S A s.heap s.heap [] := va_S.rf
  have hP : va_P (dC, dI) vwCl (wRo a cI cZ cD ki pl tu le ch ca (nI N) tk th hu od (nI M) ti be clk) s.heap := hP
  have hl := lv_entry ([.ref (a 0), .int (nI mi)]) (n := 3) (Nat.le_of_ble_eq_true rfl)
  rw [lg_entry_eq]
  generalize (lg_sl ([.ref (a 0), .int (nI mi)]) ++ List.replicate (3 - (lg_sl ([.ref (a 0), .int (nI mi)])).length) Slot.unset).toArray = ls at hl ⊢
  have hl : lv_has ls 3 [(0, .ref (a 0)), (1, .int (nI mi))] := hl
  have hf_19 := hts (.fieldLink RX3 19 "LampRoom" "tallies" "LLampRoom$Tallies;") (by decide +kernel)
  have hin_3 : ∀ w ∈ wsX30, w ∈ wsX3_lightLeft := by decide +kernel
  refine lv_aload_n hx hb dX3_lightLeft_0 rfl (lv_at hl 0 rfl) ?_
  refine lv_iload_n hx hb dX3_lightLeft_1 rfl (lv_at hl 1 rfl) ?_
  refine zq_cVv (As := [.int (nI mi)]) (rest := []) (wc := (wRo a cI cZ cD ki pl tu le ch ca (nI N) tk th hu od (nI M) ti be clk)) (w1 := (wRo a cI cZ cD ki pl tu le ch ca (nI N) tk th hu od (nI M) ti be clk)) (wr := ([] : va_W)) (ws' := (wRo a cI cZ cD ki pl tu le ch ca (nI N) tk th hu od (nI M) ti be clk)) ⟨hx, hb, hml, hown, hts⟩ (c_X3_checkMiner_ok l dC dI a cI cZ cD ki pl tu le ch ca N tk th hu od M ti be clk (by omega) (by omega) mi (by omega) s.heap.size) (cwV 1 hts gX3_lightLeft_X3_checkMiner rfl rfl rfl (by decide +kernel) ⟨Nat.le_of_ble_eq_true rfl, Nat.le_of_ble_eq_true rfl⟩) hK hP hD hS hA [0, 1, 2, 3, 4, 5, 6, 7, 8, 9, 10, 11, 12, 13, 14] [] [0, 1, 2, 3, 4, 5, 6, 7, 8, 9, 10, 11, 12, 13, 14] rfl rfl rfl rfl (by decide) rfl rfl (ci := 3) rfl 0 rfl rfl hl.1 rfl (Nat.le_of_ble_eq_true rfl) dX3_lightLeft_2 ⟨Nat.zero_le _, Nat.zero_le _⟩ (fun H locs hP hD hS => ?_)
  refine lv_aload_n hx hb dX3_lightLeft_5 rfl (lv_at hl 0 rfl) ?_
  refine va_get (D := (dC, dI)) (ci := 3) (v := .ref (a 8)) (C := RX3) (T := TX3) (N := 4) hx hb hts hin_3 hown hK hP 0 rfl rfl 1 (by decide) hf_19 (fun _ h9 => h9) rfl dX3_lightLeft_6 ?_
  refine lv_iload_n hx hb dX3_lightLeft_9 rfl (lv_at hl 1 rfl) ?_
  refine zq_cVi (As := [.int (nI mi)]) (rest := []) (wc := (wTa a cI tk th hu od (nI M) ti)) (w1 := (wTa a cI tk th hu od (nI M) ti)) (wr := ([wRm a clk] ++ (wLa a cI cZ cD ki pl tu le ch ca (nI N) ++ (wAl a cI be)) : va_W)) (ws' := (wRo a cI cZ cD ki pl tu le ch ca (nI N) tk th hu od (nI M) ti be clk)) ⟨hx, hb, hml, hown, hts⟩ (c_X2_lampHeld l dC dI a cI cZ cD tk th hu od M ti (by omega) mi (by omega) H.size) (cwV 1 hts gX3_lightLeft_X2_lampHeld rfl rfl rfl (by decide +kernel) ⟨Nat.le_of_ble_eq_true rfl, Nat.le_of_ble_eq_true rfl⟩) hK hP hD hS hA [8, 9, 10, 11, 12] [0, 1, 2, 3, 4, 5, 6, 7, 13, 14] [0, 1, 2, 3, 4, 5, 6, 7, 10, 11, 12, 13, 14, 8, 9] rfl rfl rfl rfl (by decide) rfl rfl (ci := 2) rfl 0 rfl rfl hl.1 rfl (Nat.le_of_ble_eq_true rfl) dX3_lightLeft_10 ⟨Nat.zero_le _, Nat.zero_le _⟩ (fun H locs hP hD hS => ?_)
  refine lv_istore_n (lv' := [(2, .int (th mi)), (0, .ref (a 0)), (1, .int (nI mi))]) hx hb dX3_lightLeft_13 rfl hl (by decide) rfl (fun ls hl => ?_)
  refine lv_iload_n hx hb dX3_lightLeft_14 rfl (lv_at hl 0 rfl) ?_
  refine lv_iconst (v := (-1)) hx hb dX3_lightLeft_15 (by decide) ?_
  refine lv_icmp_ne (tgt := 23) hx hb dX3_lightLeft_16 (by decide) (fun c_0 => ?_) (fun c_0 => ?_)
  · exact absurd hla c_0
  · refine lv_iconst (v := (-1)) hx hb dX3_lightLeft_19 (by decide) ?_
    refine lv_goto (tgt := 32) hx hb dX3_lightLeft_20 (by decide) ?_
    exact W.iret (v := (-1)) hx hb hr (zq_qi rfl hP hK hD hS) hS.2.2 dX3_lightLeft_32

set_option maxHeartbeats 4000000 in
set_option maxRecDepth 100000 in
theorem c_X3_spares (l : Launch) (dC : Nat → ClassId) (dI : Nat → Nat → Nat) (a : Nat → Nat) (cI cZ cD : ClassId) (ki pl tu le : Nat → Int32) (ch ca : Nat → UInt64) (N : Nat) (tk th hu od : Nat → Int32) (M : Nat) (ti : Int32) (be : Nat → Int32) (clk : Int32) (hN : N ≤ 40) (hM : M ≤ 30) (hlm : ∀ mi, mi < M → ¬ th mi = -1 → ∃ j, j < N ∧ th mi = nI j) (sz : Nat) : zq_Mi l yX3_spares wsX3_spares ({ frames := 1, cells := 0, slots := 0, locals := 21 } : Room) (dC, dI) (zq_T cI cZ cD) [.ref (a 0)] (wRo a cI cZ cD ki pl tu le ch ca (nI N) tk th hu od (nI M) ti be clk) (nI (zf_cnt (sp_a ki tk th) M)) (wRo a cI cZ cD ki pl tu le ch ca (nI N) tk th hu od (nI M) ti be clk) sz := by
  refine Met.ofW (cc := cX3_spares) (maxL := 4) (ret := (some .int)) (by decide) rfl ?_
  intro p e s m args below meth c s₁ B hml hv
  obtain ⟨rfl, hsz, hP, hK, hD0⟩ := hv
  have hx := B.exec
  have hb := B.bytes
  have hr := B.returns
  have hts := atoms_spec (ws := wsX3_spares) B.pre
  have hown : s.vm.findClass RX3 = some m.cls := findClass_of_methodNamed B.named
  have hlocks := B.notSynchronized
  subst hsz
  have hD := hD0.self (sz := s.heap.size)
  generalize hAe : va_A (wRo a cI cZ cD ki pl tu le ch ca (nI N) tk th hu od (nI M) ti be clk) s.heap.size = A at hD ⊢
  have hA : ∀ q : Nat, s.heap.size ≤ q → A q := fun q h => by rw [← hAe]; exact Or.inr h
  have hS : va_S A s.heap s.heap [] := va_S.rf
  have hP : va_P (dC, dI) vwCl (wRo a cI cZ cD ki pl tu le ch ca (nI N) tk th hu od (nI M) ti be clk) s.heap := hP
  have hl := lv_entry ([.ref (a 0)]) (n := 4) (Nat.le_of_ble_eq_true rfl)
  rw [lg_entry_eq]
  generalize (lg_sl ([.ref (a 0)]) ++ List.replicate (4 - (lg_sl ([.ref (a 0)])).length) Slot.unset).toArray = ls at hl ⊢
  have hl : lv_has ls 4 [(0, .ref (a 0))] := hl
  have hf_19 := hts (.fieldLink RX3 19 "LampRoom" "tallies" "LLampRoom$Tallies;") (by decide +kernel)
  have hin_3 : ∀ w ∈ wsX30, w ∈ wsX3_spares := by decide +kernel
  have hf_10 := hts (.fieldLink RX3 10 "LampRoom" "lamps" "LLampRoom$Lamps;") (by decide +kernel)
  refine lv_iconst (v := 0) hx hb dX3_spares_0 (by decide) ?_
  refine lv_istore_n (lv' := [(1, .int 0), (0, .ref (a 0))]) hx hb dX3_spares_1 rfl hl (by decide) rfl (fun ls hl => ?_)
  refine lv_iconst (v := 0) hx hb dX3_spares_2 (by decide) ?_
  refine lv_istore_n (lv' := [(2, .int 0), (1, .int 0), (0, .ref (a 0))]) hx hb dX3_spares_3 rfl hl (by decide) rfl (fun ls hl => ?_)
  refine zq_loop 4 M (fun i H locs ls => va_P (dC, dI) vwCl (wRo a cI cZ cD ki pl tu le ch ca (nI N) tk th hu od (nI M) ti be clk) H ∧ va_D A (wRo a cI cZ cD ki pl tu le ch ca (nI N) tk th hu od (nI M) ti be clk) ∧ va_S A s.heap H locs ∧ lv_has ls 4 [(1, .int (nI (zf_cnt (sp_a ki tk th) i))), (2, .int (nI i)), (0, .ref (a 0))]) ?_ 0 (by omega) _ _ _ ⟨hP, hD, hS, lv_sub hl [1, 0, 2] rfl⟩
  intro i hi_i ih_i H locs ls hh
  obtain ⟨hP, hD, hS, hl⟩ := hh
  refine lv_iload_n hx hb dX3_spares_4 rfl (lv_at hl 1 rfl) ?_
  refine lv_aload_n hx hb dX3_spares_5 rfl (lv_at hl 2 rfl) ?_
  refine va_get (D := (dC, dI)) (ci := 3) (v := .ref (a 8)) (C := RX3) (T := TX3) (N := 4) hx hb hts hin_3 hown hK hP 0 rfl rfl 1 (by decide) hf_19 (fun _ h9 => h9) rfl dX3_spares_6 ?_
  refine zq_cVi (As := []) (rest := [.int (nI i)]) (wc := (wTa a cI tk th hu od (nI M) ti)) (w1 := (wTa a cI tk th hu od (nI M) ti)) (wr := ([wRm a clk] ++ (wLa a cI cZ cD ki pl tu le ch ca (nI N) ++ (wAl a cI be)) : va_W)) (ws' := (wRo a cI cZ cD ki pl tu le ch ca (nI N) tk th hu od (nI M) ti be clk)) ⟨hx, hb, hml, hown, hts⟩ (c_X2_size l dC dI a cI cZ cD tk th hu od M ti (by omega) H.size) (cwV 0 hts gX3_spares_X2_size rfl rfl rfl (by decide +kernel) ⟨Nat.le_of_ble_eq_true rfl, Nat.le_of_ble_eq_true rfl⟩) hK hP hD hS hA [8, 9, 10, 11, 12] [0, 1, 2, 3, 4, 5, 6, 7, 13, 14] [0, 1, 2, 3, 4, 5, 6, 7, 10, 11, 12, 13, 14, 8, 9] rfl rfl rfl rfl (by decide) rfl rfl (ci := 2) rfl 0 rfl rfl hl.1 rfl (Nat.le_of_ble_eq_true rfl) dX3_spares_9 ⟨Nat.zero_le _, Nat.zero_le _⟩ (fun H locs hP hD hS => ?_)
  refine lv_icmp_ge (tgt := 57) hx hb dX3_spares_12 (by decide) (fun c_0 => ?_) (fun c_0 => ?_)
  · have d_0 := (nI_leI (a := M) (b := i) (by omega) (by omega)).mp c_0
    have ei_i : i = M := by omega
    refine lv_iload_n hx hb dX3_spares_57 rfl (lv_at hl 0 rfl) ?_
    exact W.iret (v := nI (zf_cnt (sp_a ki tk th) i)) hx hb hr (zq_qi (by first | with_reducible rfl | simp [d_0, ei_i]) hP hK hD hS) hS.2.2 dX3_spares_58
  · have d_0 := Nat.not_le.mp (fun h => c_0 ((nI_leI (a := M) (b := i) (by omega) (by omega)).mpr h))
    refine lv_aload_n hx hb dX3_spares_15 rfl (lv_at hl 2 rfl) ?_
    refine va_get (D := (dC, dI)) (ci := 3) (v := .ref (a 8)) (C := RX3) (T := TX3) (N := 4) hx hb hts hin_3 hown hK hP 0 rfl rfl 1 (by decide) hf_19 (fun _ h9 => h9) rfl dX3_spares_16 ?_
    refine lv_iload_n hx hb dX3_spares_19 rfl (lv_at hl 1 rfl) ?_
    refine zq_cVi (As := [.int (nI i)]) (rest := []) (wc := (wTa a cI tk th hu od (nI M) ti)) (w1 := (wTa a cI tk th hu od (nI M) ti)) (wr := ([wRm a clk] ++ (wLa a cI cZ cD ki pl tu le ch ca (nI N) ++ (wAl a cI be)) : va_W)) (ws' := (wRo a cI cZ cD ki pl tu le ch ca (nI N) tk th hu od (nI M) ti be clk)) ⟨hx, hb, hml, hown, hts⟩ (c_X2_lampHeld l dC dI a cI cZ cD tk th hu od M ti (by omega) i (by omega) H.size) (cwV 1 hts gX3_spares_X2_lampHeld rfl rfl rfl (by decide +kernel) ⟨Nat.le_of_ble_eq_true rfl, Nat.le_of_ble_eq_true rfl⟩) hK hP hD hS hA [8, 9, 10, 11, 12] [0, 1, 2, 3, 4, 5, 6, 7, 13, 14] [0, 1, 2, 3, 4, 5, 6, 7, 10, 11, 12, 13, 14, 8, 9] rfl rfl rfl rfl (by decide) rfl rfl (ci := 2) rfl 0 rfl rfl hl.1 rfl (Nat.le_of_ble_eq_true rfl) dX3_spares_20 ⟨Nat.zero_le _, Nat.zero_le _⟩ (fun H locs hP hD hS => ?_)
    refine lv_istore_n (lv' := [(3, .int (th i)), (1, .int (nI (zf_cnt (sp_a ki tk th) i))), (2, .int (nI i)), (0, .ref (a 0))]) hx hb dX3_spares_23 rfl hl (by decide) rfl (fun ls hl => ?_)
    refine lv_iload_n hx hb dX3_spares_24 rfl (lv_at hl 0 rfl) ?_
    refine lv_iconst (v := (-1)) hx hb dX3_spares_25 (by decide) ?_
    refine lv_icmp_eq (tgt := 51) hx hb dX3_spares_26 (by decide) (fun c_1 => ?_) (fun c_1 => ?_)
    · refine lv_iinc (v := nI (i + 1)) (lv' := [(2, .int (nI (i + 1))), (3, .int (th i)), (1, .int (nI (zf_cnt (sp_a ki tk th) i))), (0, .ref (a 0))]) hx hb dX3_spares_51 hl (k := 2) rfl (nI_add _ 1) (by decide) rfl (fun ls hl => ?_)
      refine lv_goto (tgt := 4) hx hb dX3_spares_54 (by decide) ?_
      have e_2 : (nI (zf_cnt (sp_a ki tk th) (i + 1))) = (nI (zf_cnt (sp_a ki tk th) i)) := by rw [zf_cnt_f (by simp [sp_a, d_0, c_1])]
      exact ih_i _ _ _ (by omega) ⟨(by (try rw [e_2]); exact hP), (by (try rw [e_2]); exact hD), hS, (by (try rw [e_2]); exact lv_sub hl [2, 0, 3] rfl)⟩
    · refine lv_aload_n hx hb dX3_spares_29 rfl (lv_at hl 3 rfl) ?_
      refine va_get (D := (dC, dI)) (ci := 3) (v := .ref (a 1)) (C := RX3) (T := TX3) (N := 4) hx hb hts hin_3 hown hK hP 0 rfl rfl 0 (by decide) hf_10 (fun _ h9 => h9) rfl dX3_spares_30 ?_
      refine lv_iload_n hx hb dX3_spares_33 rfl (lv_at hl 0 rfl) ?_
      obtain ⟨jl, hjl, elm⟩ := hlm i (by omega) c_1
      have clm : (th i).toNatClampNeg = jl := by rw [elm]; exact nI_clamp (by omega)
      rw [elm]
      refine zq_cVi (As := [.int (nI jl)]) (rest := []) (wc := (wLa a cI cZ cD ki pl tu le ch ca (nI N))) (w1 := (wLa a cI cZ cD ki pl tu le ch ca (nI N))) (wr := ([wRm a clk] ++ (wTa a cI tk th hu od (nI M) ti ++ (wAl a cI be)) : va_W)) (ws' := (wRo a cI cZ cD ki pl tu le ch ca (nI N) tk th hu od (nI M) ti be clk)) ⟨hx, hb, hml, hown, hts⟩ (c_X1_kindAt l dC dI a cI cZ cD ki pl tu le ch ca N (by omega) jl (by omega) H.size) (cwV 1 hts gX3_spares_X1_kindAt rfl rfl rfl (by decide +kernel) ⟨Nat.le_of_ble_eq_true rfl, Nat.le_of_ble_eq_true rfl⟩) hK hP hD hS hA [1, 2, 3, 4, 5, 6, 7] [0, 8, 9, 10, 11, 12, 13, 14] [0, 8, 9, 10, 11, 12, 13, 14, 1, 2, 3, 4, 5, 6, 7] rfl rfl rfl rfl (by decide) rfl rfl (ci := 1) rfl 0 rfl rfl hl.1 rfl (Nat.le_of_ble_eq_true rfl) dX3_spares_34 ⟨Nat.zero_le _, Nat.zero_le _⟩ (fun H locs hP hD hS => ?_)
      refine lv_aload_n hx hb dX3_spares_37 rfl (lv_at hl 3 rfl) ?_
      refine va_get (D := (dC, dI)) (ci := 3) (v := .ref (a 8)) (C := RX3) (T := TX3) (N := 4) hx hb hts hin_3 hown hK hP 0 rfl rfl 1 (by decide) hf_19 (fun _ h9 => h9) rfl dX3_spares_38 ?_
      refine lv_iload_n hx hb dX3_spares_41 rfl (lv_at hl 2 rfl) ?_
      refine zq_cVi (As := [.int (nI i)]) (rest := [.int (ki jl)]) (wc := (wTa a cI tk th hu od (nI M) ti)) (w1 := (wTa a cI tk th hu od (nI M) ti)) (wr := ([wRm a clk] ++ (wLa a cI cZ cD ki pl tu le ch ca (nI N) ++ (wAl a cI be)) : va_W)) (ws' := (wRo a cI cZ cD ki pl tu le ch ca (nI N) tk th hu od (nI M) ti be clk)) ⟨hx, hb, hml, hown, hts⟩ (c_X2_kindAt l dC dI a cI cZ cD tk th hu od M ti (by omega) i (by omega) H.size) (cwV 1 hts gX3_spares_X2_kindAt rfl rfl rfl (by decide +kernel) ⟨Nat.le_of_ble_eq_true rfl, Nat.le_of_ble_eq_true rfl⟩) hK hP hD hS hA [8, 9, 10, 11, 12] [0, 1, 2, 3, 4, 5, 6, 7, 13, 14] [0, 1, 2, 3, 4, 5, 6, 7, 10, 11, 12, 13, 14, 8, 9] rfl rfl rfl rfl (by decide) rfl rfl (ci := 2) rfl 0 rfl rfl hl.1 rfl (Nat.le_of_ble_eq_true rfl) dX3_spares_42 ⟨Nat.zero_le _, Nat.zero_le _⟩ (fun H locs hP hD hS => ?_)
      refine lv_icmp_le (tgt := 51) hx hb dX3_spares_45 (by decide) (fun c_3 => ?_) (fun c_3 => ?_)
      · refine lv_iinc (v := nI (i + 1)) (lv' := [(2, .int (nI (i + 1))), (3, .int (th i)), (1, .int (nI (zf_cnt (sp_a ki tk th) i))), (0, .ref (a 0))]) hx hb dX3_spares_51 hl (k := 2) rfl (nI_add _ 1) (by decide) rfl (fun ls hl => ?_)
        refine lv_goto (tgt := 4) hx hb dX3_spares_54 (by decide) ?_
        have e_4 : (nI (zf_cnt (sp_a ki tk th) (i + 1))) = (nI (zf_cnt (sp_a ki tk th) i)) := by rw [zf_cnt_f (by simp [sp_a, d_0, c_1, clm, c_3])]
        exact ih_i _ _ _ (by omega) ⟨(by (try rw [e_4]); exact hP), (by (try rw [e_4]); exact hD), hS, (by (try rw [e_4]); exact lv_sub hl [2, 0, 3] rfl)⟩
      · refine lv_iinc (v := nI ((zf_cnt (sp_a ki tk th) i) + 1)) (lv' := [(1, .int (nI ((zf_cnt (sp_a ki tk th) i) + 1))), (3, .int (th i)), (2, .int (nI i)), (0, .ref (a 0))]) hx hb dX3_spares_48 hl (k := 1) rfl (nI_add _ 1) (by decide) rfl (fun ls hl => ?_)
        refine lv_iinc (v := nI (i + 1)) (lv' := [(2, .int (nI (i + 1))), (1, .int (nI ((zf_cnt (sp_a ki tk th) i) + 1))), (3, .int (th i)), (0, .ref (a 0))]) hx hb dX3_spares_51 hl (k := 2) rfl (nI_add _ 1) (by decide) rfl (fun ls hl => ?_)
        refine lv_goto (tgt := 4) hx hb dX3_spares_54 (by decide) ?_
        have e_5 : (nI (zf_cnt (sp_a ki tk th) (i + 1))) = (nI ((zf_cnt (sp_a ki tk th) i) + 1)) := by rw [zf_cnt_t (by simp [sp_a, d_0, c_1, clm, c_3, Int32.not_le.mp c_3])]
        exact ih_i _ _ _ (by omega) ⟨(by (try rw [e_5]); exact hP), (by (try rw [e_5]); exact hD), hS, (by (try rw [e_5]); exact lv_sub hl [1, 0, 3] rfl)⟩

set_option maxHeartbeats 4000000 in
set_option maxRecDepth 100000 in
theorem c_X3_rackCharge (l : Launch) (dC : Nat → ClassId) (dI : Nat → Nat → Nat) (a : Nat → Nat) (cI cZ cD : ClassId) (ki pl tu le : Nat → Int32) (ch ca : Nat → UInt64) (N : Nat) (tk th hu od : Nat → Int32) (M : Nat) (ti : Int32) (be : Nat → Int32) (clk : Int32) (hN : N ≤ 40) (hM : M ≤ 30) (hp : ∀ i, i < 40 → zn_p (ch i)) (hc : ∀ i, i < 40 → zn_p (ca i)) (sz : Nat) : zq_Mi l yX3_rackCharge wsX3_rackCharge ({ frames := 1, cells := 0, slots := 0, locals := 25 } : Room) (dC, dI) (zq_T cI cZ cD) [.ref (a 0)] (wRo a cI cZ cD ki pl tu le ch ca (nI N) tk th hu od (nI M) ti be clk) (la_rc (la_sum pl ch N) (la_sum pl ca N)) (wRo a cI cZ cD ki pl tu le ch ca (nI N) tk th hu od (nI M) ti be clk) sz := by
  refine Met.ofW (cc := cX3_rackCharge) (maxL := 1) (ret := (some .int)) (by decide) rfl ?_
  intro p e s m args below meth c s₁ B hml hv
  obtain ⟨rfl, hsz, hP, hK, hD0⟩ := hv
  have hx := B.exec
  have hb := B.bytes
  have hr := B.returns
  have hts := atoms_spec (ws := wsX3_rackCharge) B.pre
  have hown : s.vm.findClass RX3 = some m.cls := findClass_of_methodNamed B.named
  have hlocks := B.notSynchronized
  subst hsz
  have hD := hD0.self (sz := s.heap.size)
  generalize hAe : va_A (wRo a cI cZ cD ki pl tu le ch ca (nI N) tk th hu od (nI M) ti be clk) s.heap.size = A at hD ⊢
  have hA : ∀ q : Nat, s.heap.size ≤ q → A q := fun q h => by rw [← hAe]; exact Or.inr h
  have hS : va_S A s.heap s.heap [] := va_S.rf
  have hP : va_P (dC, dI) vwCl (wRo a cI cZ cD ki pl tu le ch ca (nI N) tk th hu od (nI M) ti be clk) s.heap := hP
  have hl := lv_entry ([.ref (a 0)]) (n := 1) (Nat.le_of_ble_eq_true rfl)
  rw [lg_entry_eq]
  generalize (lg_sl ([.ref (a 0)]) ++ List.replicate (1 - (lg_sl ([.ref (a 0)])).length) Slot.unset).toArray = ls at hl ⊢
  have hl : lv_has ls 1 [(0, .ref (a 0))] := hl
  have hf_10 := hts (.fieldLink RX3 10 "LampRoom" "lamps" "LLampRoom$Lamps;") (by decide +kernel)
  have hin_3 : ∀ w ∈ wsX30, w ∈ wsX3_rackCharge := by decide +kernel
  refine lv_aload_n hx hb dX3_rackCharge_0 rfl (lv_at hl 0 rfl) ?_
  refine va_get (D := (dC, dI)) (ci := 3) (v := .ref (a 1)) (C := RX3) (T := TX3) (N := 4) hx hb hts hin_3 hown hK hP 0 rfl rfl 0 (by decide) hf_10 (fun _ h9 => h9) rfl dX3_rackCharge_1 ?_
  refine zq_cVi (As := []) (rest := []) (wc := (wLa a cI cZ cD ki pl tu le ch ca (nI N))) (w1 := (wLa a cI cZ cD ki pl tu le ch ca (nI N))) (wr := ([wRm a clk] ++ (wTa a cI tk th hu od (nI M) ti ++ (wAl a cI be)) : va_W)) (ws' := (wRo a cI cZ cD ki pl tu le ch ca (nI N) tk th hu od (nI M) ti be clk)) ⟨hx, hb, hml, hown, hts⟩ (c_X1_hundredthsOnRack l dC dI a cI cZ cD ki pl tu le ch ca N (by omega) (hp) (hc) s.heap.size) (cwV 0 hts gX3_rackCharge_X1_hundredthsOnRack rfl rfl rfl (by decide +kernel) ⟨Nat.le_of_ble_eq_true rfl, Nat.le_of_ble_eq_true rfl⟩) hK hP hD hS hA [1, 2, 3, 4, 5, 6, 7] [0, 8, 9, 10, 11, 12, 13, 14] [0, 8, 9, 10, 11, 12, 13, 14, 1, 2, 3, 4, 5, 6, 7] rfl rfl rfl rfl (by decide) rfl rfl (ci := 1) rfl 0 rfl rfl hl.1 rfl (Nat.le_of_ble_eq_true rfl) dX3_rackCharge_4 ⟨Nat.zero_le _, Nat.zero_le _⟩ (fun H locs hP hD hS => ?_)
  exact W.iret (v := la_rc (la_sum pl ch N) (la_sum pl ca N)) hx hb hr (zq_qi rfl hP hK hD hS) hS.2.2 dX3_rackCharge_7
end
section
theorem zq_sameI {D : va_G} {tys tys' : List (ClassId × FieldType)} {s : State} {c c' : ClassId} (h : va_K D vwCl (tys ++ [(c, .int)]) s) (h2 : va_K D vwCl tys' s) (t0 : Nat) (ht : tys'[t0]? = some (c', .int)) : c = c' := by
  have e1 : s.vm.findClass ("[" ++ FieldType.int.toString) = some c := (h.2 tys.length (c, .int) (by simp)).2
  have e2 : s.vm.findClass ("[" ++ FieldType.int.toString) = some c' := (h2.2 t0 (c', .int) ht).2
  exact Option.some.inj (e1.symm.trans e2)
theorem zq_sameB {D : va_G} {tys tys' : List (ClassId × FieldType)} {s : State} {c c' : ClassId} (h : va_K D vwCl (tys ++ [(c, .boolean)]) s) (h2 : va_K D vwCl tys' s) (t0 : Nat) (ht : tys'[t0]? = some (c', .boolean)) : c = c' := by
  have e1 : s.vm.findClass ("[" ++ FieldType.boolean.toString) = some c := (h.2 tys.length (c, .boolean) (by simp)).2
  have e2 : s.vm.findClass ("[" ++ FieldType.boolean.toString) = some c' := (h2.2 t0 (c', .boolean) ht).2
  exact Option.some.inj (e1.symm.trans e2)
theorem zq_sameD {D : va_G} {tys tys' : List (ClassId × FieldType)} {s : State} {c c' : ClassId} (h : va_K D vwCl (tys ++ [(c, .double)]) s) (h2 : va_K D vwCl tys' s) (t0 : Nat) (ht : tys'[t0]? = some (c', .double)) : c = c' := by
  have e1 : s.vm.findClass ("[" ++ FieldType.double.toString) = some c := (h.2 tys.length (c, .double) (by simp)).2
  have e2 : s.vm.findClass ("[" ++ FieldType.double.toString) = some c' := (h2.2 t0 (c', .double) ht).2
  exact Option.some.inj (e1.symm.trans e2)
set_option maxHeartbeats 4000000 in
set_option maxRecDepth 100000 in
theorem c_X0_init (l : Launch) (dC : Nat → ClassId) (dI : Nat → Nat → Nat) (cI cZ cD : ClassId) (q : Nat) (sz : Nat) : Met l yX0_init wsX0_init ({ frames := 1, cells := 1, slots := 60, locals := 12 } : Room) (va_Pc [.ref q] (zq_Pre (dC, dI) (zq_T cI cZ cD) [(q, .inr (0, [.null]))] sz)) (va_Qv (fun u : Nat → Nat => u 13 = q) (fun u t => zq_B (dC, dI) (zq_T cI cZ cD) (va_A [(q, .inr (0, [.null]))] sz) (wAl u cI (fun _ => 0)) () t) (va_A [(q, .inr (0, [.null]))] sz)) 1 60 (va_A [(q, .inr (0, [.null]))] sz) := by
  refine Met.ofW (cc := cX0_init) (maxL := 1) (ret := none) (by decide) rfl ?_
  intro p e s m args below meth c s₁ B hml hv
  obtain ⟨rfl, hsz, hP, hK, hD0⟩ := hv
  have hx := B.exec
  have hb := B.bytes
  have hr := B.returns
  have hts := atoms_spec (ws := wsX0_init) B.pre
  have hown : s.vm.findClass RX0 = some m.cls := findClass_of_methodNamed B.named
  have hlocks := B.notSynchronized
  have hin : meth.name = "<init>" := (name_of_methodNamed B.named B.method).1
  subst hsz
  have hD := hD0.self (sz := s.heap.size)
  generalize hAe : va_A [(q, .inr (0, [.null]))] s.heap.size = A at hD ⊢
  have hA : ∀ q : Nat, s.heap.size ≤ q → A q := fun q h => by rw [← hAe]; exact Or.inr h
  have hS : va_S A s.heap s.heap [] := va_S.rf
  have hl := lv_entry ([.ref q]) (n := 1) (Nat.le_of_ble_eq_true rfl)
  rw [lg_entry_eq]
  generalize (lg_sl ([.ref q]) ++ List.replicate (1 - (lg_sl ([.ref q])).length) Slot.unset).toArray = ls at hl ⊢
  have hl : lv_has ls 1 [(0, .ref q)] := hl
  have hinX : ∀ w ∈ wsX00, w ∈ wsX0_init := by decide +kernel
  refine lv_aload_n hx hb dX0_init_0 rfl (lv_at hl 0 rfl) ?_
  refine W.objInit hx hb hown (hts (.methodLink RX0 3 objectInit) (by decide +kernel)) (hts (.instanceMethod objectInit) (by decide +kernel)) (hts (.code objectInit ⟨#[0xb1]⟩ 1 none) (by decide +kernel)) rfl (by rw [hml]; exact hl.1) rfl dX0_init_1 (Nat.le_of_ble_eq_true rfl) (Nat.le_of_ble_eq_true rfl) ?_
  refine W.eq (g2 := F0 m 4 ls []) rfl ?_
  refine lv_aload_n hx hb dX0_init_4 rfl (lv_at hl 0 rfl) ?_
  refine lv_bipush (v := 60) hx hb dX0_init_5 (by decide) ?_
  refine va_newa (atype := .int) (ty := .int) hx hb (hts (.arrayClass .int) (by decide +kernel)) rfl hK hP hD hS hA (n := 60) (N' := 60) (a0 := (60, .inl (fun _ => 0))) (fun _ => rfl) (by decide) rfl (by decide) (Nat.le_of_ble_eq_true rfl) (Nat.le_of_ble_eq_true rfl) dX0_init_7 (fun q0 cX H hKX hP hD hS => ?_)
  have eX : cX = cI := zq_sameI hKX hK 0 rfl
  rw [eX] at hP hD
  have hP : va_P (dC, dI) vwCl [(q, .inr (0, [.null])), (q0, .inl (cI, 60, .inl (fun _ => 0)))] H := hP
  have hD : va_D A [(q, .inr (0, [.null])), (q0, .inl (cI, 60, .inl (fun _ => 0)))] := hD
  refine va_putF (D := (dC, dI)) (ci := 0) (v := .ref q0) (ty := .array .int) (C := RX0) (T := TX0) (N := 1) hx hb hts hinX tyX0 tyX0_ok nmX0 hown hK hP hD hS 0 rfl rfl 0 (by decide) (hts (.fieldLink RX0 9 "LampRoom$Alarms" "began" "[I") (by decide +kernel)) (fun _ h9 => h9) rfl hin rfl (by decide +kernel) rfl rfl (Nat.le_of_ble_eq_true rfl) dX0_init_9 (fun H locs hP hD hS => ?_)
  have hP : va_P (dC, dI) vwCl [(q, .inr (0, [.ref q0])), (q0, .inl (cI, 60, .inl (fun _ => 0)))] H := hP
  have hD : va_D A [(q, .inr (0, [.ref q0])), (q0, .inl (cI, 60, .inl (fun _ => 0)))] := hD
  refine W.widen (k := 1) (n := 60) (Nat.le_of_ble_eq_true rfl) (Nat.le_of_ble_eq_true rfl) ?_
  exact W.vret hx hb hr (fun t ht hW => ⟨⟨(fun k => [0, 0, 0, 0, 0, 0, 0, 0, 0, 0, 0, 0, 0, q, q0].getD k 0), rfl, rfl, by rw [ht]; exact hP, va_K.moved hW.alike hK, hD⟩, hS.F ht⟩) hS.2.2 dX0_init_12
set_option maxHeartbeats 4000000 in
set_option maxRecDepth 100000 in
theorem c_X1_init (l : Launch) (dC : Nat → ClassId) (dI : Nat → Nat → Nat) (cI cZ cD : ClassId) (q : Nat) (sz : Nat) : Met l yX1_init wsX1_init ({ frames := 1, cells := 6, slots := 240, locals := 12 } : Room) (va_Pc [.ref q] (zq_Pre (dC, dI) (zq_T cI cZ cD) [(q, .inr (1, [.null, .null, .null, .null, .null, .null, .int 0]))] sz)) (va_Qv (fun u : Nat → Nat => u 1 = q) (fun u t => zq_B (dC, dI) (zq_T cI cZ cD) (va_A [(q, .inr (1, [.null, .null, .null, .null, .null, .null, .int 0]))] sz) (wLa u cI cZ cD (fun _ => 0) (fun _ => 0) (fun _ => 0) (fun _ => 0) (fun _ => 0) (fun _ => 0) (nI 0)) () t) (va_A [(q, .inr (1, [.null, .null, .null, .null, .null, .null, .int 0]))] sz)) 6 240 (va_A [(q, .inr (1, [.null, .null, .null, .null, .null, .null, .int 0]))] sz) := by
  refine Met.ofW (cc := cX1_init) (maxL := 1) (ret := none) (by decide) rfl ?_
  intro p e s m args below meth c s₁ B hml hv
  obtain ⟨rfl, hsz, hP, hK, hD0⟩ := hv
  have hx := B.exec
  have hb := B.bytes
  have hr := B.returns
  have hts := atoms_spec (ws := wsX1_init) B.pre
  have hown : s.vm.findClass RX1 = some m.cls := findClass_of_methodNamed B.named
  have hlocks := B.notSynchronized
  have hin : meth.name = "<init>" := (name_of_methodNamed B.named B.method).1
  subst hsz
  have hD := hD0.self (sz := s.heap.size)
  generalize hAe : va_A [(q, .inr (1, [.null, .null, .null, .null, .null, .null, .int 0]))] s.heap.size = A at hD ⊢
  have hA : ∀ q : Nat, s.heap.size ≤ q → A q := fun q h => by rw [← hAe]; exact Or.inr h
  have hS : va_S A s.heap s.heap [] := va_S.rf
  have hl := lv_entry ([.ref q]) (n := 1) (Nat.le_of_ble_eq_true rfl)
  rw [lg_entry_eq]
  generalize (lg_sl ([.ref q]) ++ List.replicate (1 - (lg_sl ([.ref q])).length) Slot.unset).toArray = ls at hl ⊢
  have hl : lv_has ls 1 [(0, .ref q)] := hl
  have hinX : ∀ w ∈ wsX10, w ∈ wsX1_init := by decide +kernel
  refine lv_aload_n hx hb dX1_init_0 rfl (lv_at hl 0 rfl) ?_
  refine W.objInit hx hb hown (hts (.methodLink RX1 3 objectInit) (by decide +kernel)) (hts (.instanceMethod objectInit) (by decide +kernel)) (hts (.code objectInit ⟨#[0xb1]⟩ 1 none) (by decide +kernel)) rfl (by rw [hml]; exact hl.1) rfl dX1_init_1 (Nat.le_of_ble_eq_true rfl) (Nat.le_of_ble_eq_true rfl) ?_
  refine W.eq (g2 := F0 m 4 ls []) rfl ?_
  refine lv_aload_n hx hb dX1_init_4 rfl (lv_at hl 0 rfl) ?_
  refine lv_bipush (v := 40) hx hb dX1_init_5 (by decide) ?_
  refine va_newa (atype := .int) (ty := .int) hx hb (hts (.arrayClass .int) (by decide +kernel)) rfl hK hP hD hS hA (n := 40) (N' := 40) (a0 := (40, .inl (fun _ => 0))) (fun _ => rfl) (by decide) rfl (by decide) (Nat.le_of_ble_eq_true rfl) (Nat.le_of_ble_eq_true rfl) dX1_init_7 (fun q0 cX H hKX hP hD hS => ?_)
  have eX : cX = cI := zq_sameI hKX hK 0 rfl
  rw [eX] at hP hD
  have hP : va_P (dC, dI) vwCl [(q, .inr (1, [.null, .null, .null, .null, .null, .null, .int 0])), (q0, .inl (cI, 40, .inl (fun _ => 0)))] H := hP
  have hD : va_D A [(q, .inr (1, [.null, .null, .null, .null, .null, .null, .int 0])), (q0, .inl (cI, 40, .inl (fun _ => 0)))] := hD
  refine va_putF (D := (dC, dI)) (ci := 1) (v := .ref q0) (ty := .array .int) (C := RX1) (T := TX1) (N := 7) hx hb hts hinX tyX1 tyX1_ok nmX1 hown hK hP hD hS 0 rfl rfl 0 (by decide) (hts (.fieldLink RX1 9 "LampRoom$Lamps" "kinds" "[I") (by decide +kernel)) (fun _ h9 => h9) rfl hin rfl (by decide +kernel) rfl rfl (Nat.le_of_ble_eq_true rfl) dX1_init_9 (fun H locs hP hD hS => ?_)
  have hP : va_P (dC, dI) vwCl [(q, .inr (1, [.ref q0, .null, .null, .null, .null, .null, .int 0])), (q0, .inl (cI, 40, .inl (fun _ => 0)))] H := hP
  have hD : va_D A [(q, .inr (1, [.ref q0, .null, .null, .null, .null, .null, .int 0])), (q0, .inl (cI, 40, .inl (fun _ => 0)))] := hD
  refine lv_aload_n hx hb dX1_init_12 rfl (lv_at hl 0 rfl) ?_
  refine lv_bipush (v := 40) hx hb dX1_init_13 (by decide) ?_
  refine va_newa (atype := .int) (ty := .int) hx hb (hts (.arrayClass .int) (by decide +kernel)) rfl hK hP hD hS hA (n := 40) (N' := 40) (a0 := (40, .inl (fun _ => 0))) (fun _ => rfl) (by decide) rfl (by decide) (Nat.le_of_ble_eq_true rfl) (Nat.le_of_ble_eq_true rfl) dX1_init_15 (fun q1 cX H hKX hP hD hS => ?_)
  have eX : cX = cI := zq_sameI hKX hK 0 rfl
  rw [eX] at hP hD
  have hP : va_P (dC, dI) vwCl [(q, .inr (1, [.ref q0, .null, .null, .null, .null, .null, .int 0])), (q0, .inl (cI, 40, .inl (fun _ => 0))), (q1, .inl (cI, 40, .inl (fun _ => 0)))] H := hP
  have hD : va_D A [(q, .inr (1, [.ref q0, .null, .null, .null, .null, .null, .int 0])), (q0, .inl (cI, 40, .inl (fun _ => 0))), (q1, .inl (cI, 40, .inl (fun _ => 0)))] := hD
  refine va_putF (D := (dC, dI)) (ci := 1) (v := .ref q1) (ty := .array .int) (C := RX1) (T := TX1) (N := 7) hx hb hts hinX tyX1 tyX1_ok nmX1 hown hK hP hD hS 0 rfl rfl 1 (by decide) (hts (.fieldLink RX1 15 "LampRoom$Lamps" "places" "[I") (by decide +kernel)) (fun _ h9 => h9) rfl hin rfl (by decide +kernel) rfl rfl (Nat.le_of_ble_eq_true rfl) dX1_init_17 (fun H locs hP hD hS => ?_)
  have hP : va_P (dC, dI) vwCl [(q, .inr (1, [.ref q0, .ref q1, .null, .null, .null, .null, .int 0])), (q0, .inl (cI, 40, .inl (fun _ => 0))), (q1, .inl (cI, 40, .inl (fun _ => 0)))] H := hP
  have hD : va_D A [(q, .inr (1, [.ref q0, .ref q1, .null, .null, .null, .null, .int 0])), (q0, .inl (cI, 40, .inl (fun _ => 0))), (q1, .inl (cI, 40, .inl (fun _ => 0)))] := hD
  refine lv_aload_n hx hb dX1_init_20 rfl (lv_at hl 0 rfl) ?_
  refine lv_bipush (v := 40) hx hb dX1_init_21 (by decide) ?_
  refine va_newa (atype := .int) (ty := .int) hx hb (hts (.arrayClass .int) (by decide +kernel)) rfl hK hP hD hS hA (n := 40) (N' := 40) (a0 := (40, .inl (fun _ => 0))) (fun _ => rfl) (by decide) rfl (by decide) (Nat.le_of_ble_eq_true rfl) (Nat.le_of_ble_eq_true rfl) dX1_init_23 (fun q2 cX H hKX hP hD hS => ?_)
  have eX : cX = cI := zq_sameI hKX hK 0 rfl
  rw [eX] at hP hD
  have hP : va_P (dC, dI) vwCl [(q, .inr (1, [.ref q0, .ref q1, .null, .null, .null, .null, .int 0])), (q0, .inl (cI, 40, .inl (fun _ => 0))), (q1, .inl (cI, 40, .inl (fun _ => 0))), (q2, .inl (cI, 40, .inl (fun _ => 0)))] H := hP
  have hD : va_D A [(q, .inr (1, [.ref q0, .ref q1, .null, .null, .null, .null, .int 0])), (q0, .inl (cI, 40, .inl (fun _ => 0))), (q1, .inl (cI, 40, .inl (fun _ => 0))), (q2, .inl (cI, 40, .inl (fun _ => 0)))] := hD
  refine va_putF (D := (dC, dI)) (ci := 1) (v := .ref q2) (ty := .array .int) (C := RX1) (T := TX1) (N := 7) hx hb hts hinX tyX1 tyX1_ok nmX1 hown hK hP hD hS 0 rfl rfl 2 (by decide) (hts (.fieldLink RX1 18 "LampRoom$Lamps" "turns" "[I") (by decide +kernel)) (fun _ h9 => h9) rfl hin rfl (by decide +kernel) rfl rfl (Nat.le_of_ble_eq_true rfl) dX1_init_25 (fun H locs hP hD hS => ?_)
  have hP : va_P (dC, dI) vwCl [(q, .inr (1, [.ref q0, .ref q1, .ref q2, .null, .null, .null, .int 0])), (q0, .inl (cI, 40, .inl (fun _ => 0))), (q1, .inl (cI, 40, .inl (fun _ => 0))), (q2, .inl (cI, 40, .inl (fun _ => 0)))] H := hP
  have hD : va_D A [(q, .inr (1, [.ref q0, .ref q1, .ref q2, .null, .null, .null, .int 0])), (q0, .inl (cI, 40, .inl (fun _ => 0))), (q1, .inl (cI, 40, .inl (fun _ => 0))), (q2, .inl (cI, 40, .inl (fun _ => 0)))] := hD
  refine lv_aload_n hx hb dX1_init_28 rfl (lv_at hl 0 rfl) ?_
  refine lv_bipush (v := 40) hx hb dX1_init_29 (by decide) ?_
  refine va_newa (atype := .boolean) (ty := .boolean) hx hb (hts (.arrayClass .boolean) (by decide +kernel)) rfl hK hP hD hS hA (n := 40) (N' := 40) (a0 := (40, .inl (fun _ => 0))) (fun _ => rfl) (by decide) rfl (by decide) (Nat.le_of_ble_eq_true rfl) (Nat.le_of_ble_eq_true rfl) dX1_init_31 (fun q3 cX H hKX hP hD hS => ?_)
  have eX : cX = cZ := zq_sameB hKX hK 1 rfl
  rw [eX] at hP hD
  have hP : va_P (dC, dI) vwCl [(q, .inr (1, [.ref q0, .ref q1, .ref q2, .null, .null, .null, .int 0])), (q0, .inl (cI, 40, .inl (fun _ => 0))), (q1, .inl (cI, 40, .inl (fun _ => 0))), (q2, .inl (cI, 40, .inl (fun _ => 0))), (q3, .inl (cZ, 40, .inl (fun _ => 0)))] H := hP
  have hD : va_D A [(q, .inr (1, [.ref q0, .ref q1, .ref q2, .null, .null, .null, .int 0])), (q0, .inl (cI, 40, .inl (fun _ => 0))), (q1, .inl (cI, 40, .inl (fun _ => 0))), (q2, .inl (cI, 40, .inl (fun _ => 0))), (q3, .inl (cZ, 40, .inl (fun _ => 0)))] := hD
  refine va_putF (D := (dC, dI)) (ci := 1) (v := .ref q3) (ty := .array .boolean) (C := RX1) (T := TX1) (N := 7) hx hb hts hinX tyX1 tyX1_ok nmX1 hown hK hP hD hS 0 rfl rfl 3 (by decide) (hts (.fieldLink RX1 21 "LampRoom$Lamps" "leaks" "[Z") (by decide +kernel)) (fun _ h9 => h9) rfl hin rfl (by decide +kernel) rfl rfl (Nat.le_of_ble_eq_true rfl) dX1_init_33 (fun H locs hP hD hS => ?_)
  have hP : va_P (dC, dI) vwCl [(q, .inr (1, [.ref q0, .ref q1, .ref q2, .ref q3, .null, .null, .int 0])), (q0, .inl (cI, 40, .inl (fun _ => 0))), (q1, .inl (cI, 40, .inl (fun _ => 0))), (q2, .inl (cI, 40, .inl (fun _ => 0))), (q3, .inl (cZ, 40, .inl (fun _ => 0)))] H := hP
  have hD : va_D A [(q, .inr (1, [.ref q0, .ref q1, .ref q2, .ref q3, .null, .null, .int 0])), (q0, .inl (cI, 40, .inl (fun _ => 0))), (q1, .inl (cI, 40, .inl (fun _ => 0))), (q2, .inl (cI, 40, .inl (fun _ => 0))), (q3, .inl (cZ, 40, .inl (fun _ => 0)))] := hD
  refine lv_aload_n hx hb dX1_init_36 rfl (lv_at hl 0 rfl) ?_
  refine lv_bipush (v := 40) hx hb dX1_init_37 (by decide) ?_
  refine va_newa (atype := .double) (ty := .double) hx hb (hts (.arrayClass .double) (by decide +kernel)) rfl hK hP hD hS hA (n := 40) (N' := 40) (a0 := (40, .inr (.inr (.inr (.inl (fun _ => 0)))))) (fun _ => rfl) (by decide) rfl (by decide) (Nat.le_of_ble_eq_true rfl) (Nat.le_of_ble_eq_true rfl) dX1_init_39 (fun q4 cX H hKX hP hD hS => ?_)
  have eX : cX = cD := zq_sameD hKX hK 2 rfl
  rw [eX] at hP hD
  have hP : va_P (dC, dI) vwCl [(q, .inr (1, [.ref q0, .ref q1, .ref q2, .ref q3, .null, .null, .int 0])), (q0, .inl (cI, 40, .inl (fun _ => 0))), (q1, .inl (cI, 40, .inl (fun _ => 0))), (q2, .inl (cI, 40, .inl (fun _ => 0))), (q3, .inl (cZ, 40, .inl (fun _ => 0))), (q4, .inl (cD, 40, .inr (.inr (.inr (.inl (fun _ => 0))))))] H := hP
  have hD : va_D A [(q, .inr (1, [.ref q0, .ref q1, .ref q2, .ref q3, .null, .null, .int 0])), (q0, .inl (cI, 40, .inl (fun _ => 0))), (q1, .inl (cI, 40, .inl (fun _ => 0))), (q2, .inl (cI, 40, .inl (fun _ => 0))), (q3, .inl (cZ, 40, .inl (fun _ => 0))), (q4, .inl (cD, 40, .inr (.inr (.inr (.inl (fun _ => 0))))))] := hD
  refine va_putF (D := (dC, dI)) (ci := 1) (v := .ref q4) (ty := .array .double) (C := RX1) (T := TX1) (N := 7) hx hb hts hinX tyX1 tyX1_ok nmX1 hown hK hP hD hS 0 rfl rfl 4 (by decide) (hts (.fieldLink RX1 25 "LampRoom$Lamps" "charges" "[D") (by decide +kernel)) (fun _ h9 => h9) rfl hin rfl (by decide +kernel) rfl rfl (Nat.le_of_ble_eq_true rfl) dX1_init_41 (fun H locs hP hD hS => ?_)
  have hP : va_P (dC, dI) vwCl [(q, .inr (1, [.ref q0, .ref q1, .ref q2, .ref q3, .ref q4, .null, .int 0])), (q0, .inl (cI, 40, .inl (fun _ => 0))), (q1, .inl (cI, 40, .inl (fun _ => 0))), (q2, .inl (cI, 40, .inl (fun _ => 0))), (q3, .inl (cZ, 40, .inl (fun _ => 0))), (q4, .inl (cD, 40, .inr (.inr (.inr (.inl (fun _ => 0))))))] H := hP
  have hD : va_D A [(q, .inr (1, [.ref q0, .ref q1, .ref q2, .ref q3, .ref q4, .null, .int 0])), (q0, .inl (cI, 40, .inl (fun _ => 0))), (q1, .inl (cI, 40, .inl (fun _ => 0))), (q2, .inl (cI, 40, .inl (fun _ => 0))), (q3, .inl (cZ, 40, .inl (fun _ => 0))), (q4, .inl (cD, 40, .inr (.inr (.inr (.inl (fun _ => 0))))))] := hD
  refine lv_aload_n hx hb dX1_init_44 rfl (lv_at hl 0 rfl) ?_
  refine lv_bipush (v := 40) hx hb dX1_init_45 (by decide) ?_
  refine va_newa (atype := .double) (ty := .double) hx hb (hts (.arrayClass .double) (by decide +kernel)) rfl hK hP hD hS hA (n := 40) (N' := 40) (a0 := (40, .inr (.inr (.inr (.inl (fun _ => 0)))))) (fun _ => rfl) (by decide) rfl (by decide) (Nat.le_of_ble_eq_true rfl) (Nat.le_of_ble_eq_true rfl) dX1_init_47 (fun q5 cX H hKX hP hD hS => ?_)
  have eX : cX = cD := zq_sameD hKX hK 2 rfl
  rw [eX] at hP hD
  have hP : va_P (dC, dI) vwCl [(q, .inr (1, [.ref q0, .ref q1, .ref q2, .ref q3, .ref q4, .null, .int 0])), (q0, .inl (cI, 40, .inl (fun _ => 0))), (q1, .inl (cI, 40, .inl (fun _ => 0))), (q2, .inl (cI, 40, .inl (fun _ => 0))), (q3, .inl (cZ, 40, .inl (fun _ => 0))), (q4, .inl (cD, 40, .inr (.inr (.inr (.inl (fun _ => 0)))))), (q5, .inl (cD, 40, .inr (.inr (.inr (.inl (fun _ => 0))))))] H := hP
  have hD : va_D A [(q, .inr (1, [.ref q0, .ref q1, .ref q2, .ref q3, .ref q4, .null, .int 0])), (q0, .inl (cI, 40, .inl (fun _ => 0))), (q1, .inl (cI, 40, .inl (fun _ => 0))), (q2, .inl (cI, 40, .inl (fun _ => 0))), (q3, .inl (cZ, 40, .inl (fun _ => 0))), (q4, .inl (cD, 40, .inr (.inr (.inr (.inl (fun _ => 0)))))), (q5, .inl (cD, 40, .inr (.inr (.inr (.inl (fun _ => 0))))))] := hD
  refine va_putF (D := (dC, dI)) (ci := 1) (v := .ref q5) (ty := .array .double) (C := RX1) (T := TX1) (N := 7) hx hb hts hinX tyX1 tyX1_ok nmX1 hown hK hP hD hS 0 rfl rfl 5 (by decide) (hts (.fieldLink RX1 29 "LampRoom$Lamps" "capacities" "[D") (by decide +kernel)) (fun _ h9 => h9) rfl hin rfl (by decide +kernel) rfl rfl (Nat.le_of_ble_eq_true rfl) dX1_init_49 (fun H locs hP hD hS => ?_)
  have hP : va_P (dC, dI) vwCl [(q, .inr (1, [.ref q0, .ref q1, .ref q2, .ref q3, .ref q4, .ref q5, .int 0])), (q0, .inl (cI, 40, .inl (fun _ => 0))), (q1, .inl (cI, 40, .inl (fun _ => 0))), (q2, .inl (cI, 40, .inl (fun _ => 0))), (q3, .inl (cZ, 40, .inl (fun _ => 0))), (q4, .inl (cD, 40, .inr (.inr (.inr (.inl (fun _ => 0)))))), (q5, .inl (cD, 40, .inr (.inr (.inr (.inl (fun _ => 0))))))] H := hP
  have hD : va_D A [(q, .inr (1, [.ref q0, .ref q1, .ref q2, .ref q3, .ref q4, .ref q5, .int 0])), (q0, .inl (cI, 40, .inl (fun _ => 0))), (q1, .inl (cI, 40, .inl (fun _ => 0))), (q2, .inl (cI, 40, .inl (fun _ => 0))), (q3, .inl (cZ, 40, .inl (fun _ => 0))), (q4, .inl (cD, 40, .inr (.inr (.inr (.inl (fun _ => 0)))))), (q5, .inl (cD, 40, .inr (.inr (.inr (.inl (fun _ => 0))))))] := hD
  refine lv_aload_n hx hb dX1_init_52 rfl (lv_at hl 0 rfl) ?_
  refine lv_iconst (v := 0) hx hb dX1_init_53 (by decide) ?_
  refine va_put (D := (dC, dI)) (ci := 1) (v := .int 0) (ty := .int) (C := RX1) (T := TX1) (N := 7) hx hb hts hinX tyX1 tyX1_ok nmX1 hown hK hP hD hS 0 rfl rfl 6 (by decide) (hts (.fieldLink RX1 32 "LampRoom$Lamps" "count" "I") (by decide +kernel)) (fun _ h9 => h9) rfl (by decide +kernel) rfl rfl (Nat.le_of_ble_eq_true rfl) dX1_init_54 (fun H locs hP hD hS => ?_)
  have hP : va_P (dC, dI) vwCl [(q, .inr (1, [.ref q0, .ref q1, .ref q2, .ref q3, .ref q4, .ref q5, .int 0])), (q0, .inl (cI, 40, .inl (fun _ => 0))), (q1, .inl (cI, 40, .inl (fun _ => 0))), (q2, .inl (cI, 40, .inl (fun _ => 0))), (q3, .inl (cZ, 40, .inl (fun _ => 0))), (q4, .inl (cD, 40, .inr (.inr (.inr (.inl (fun _ => 0)))))), (q5, .inl (cD, 40, .inr (.inr (.inr (.inl (fun _ => 0))))))] H := hP
  have hD : va_D A [(q, .inr (1, [.ref q0, .ref q1, .ref q2, .ref q3, .ref q4, .ref q5, .int 0])), (q0, .inl (cI, 40, .inl (fun _ => 0))), (q1, .inl (cI, 40, .inl (fun _ => 0))), (q2, .inl (cI, 40, .inl (fun _ => 0))), (q3, .inl (cZ, 40, .inl (fun _ => 0))), (q4, .inl (cD, 40, .inr (.inr (.inr (.inl (fun _ => 0)))))), (q5, .inl (cD, 40, .inr (.inr (.inr (.inl (fun _ => 0))))))] := hD
  refine W.widen (k := 6) (n := 240) (Nat.le_of_ble_eq_true rfl) (Nat.le_of_ble_eq_true rfl) ?_
  exact W.vret hx hb hr (fun t ht hW => ⟨⟨(fun k => [0, q, q0, q1, q2, q3, q4, q5].getD k 0), rfl, rfl, by rw [ht]; exact hP, va_K.moved hW.alike hK, hD⟩, hS.F ht⟩) hS.2.2 dX1_init_57
set_option maxHeartbeats 4000000 in
set_option maxRecDepth 100000 in
theorem c_X2_init (l : Launch) (dC : Nat → ClassId) (dI : Nat → Nat → Nat) (cI cZ cD : ClassId) (q : Nat) (sz : Nat) : Met l yX2_init wsX2_init ({ frames := 1, cells := 4, slots := 120, locals := 12 } : Room) (va_Pc [.ref q] (zq_Pre (dC, dI) (zq_T cI cZ cD) [(q, .inr (2, [.null, .null, .null, .null, .int 0, .int 0]))] sz)) (va_Qv (fun u : Nat → Nat => u 8 = q) (fun u t => zq_B (dC, dI) (zq_T cI cZ cD) (va_A [(q, .inr (2, [.null, .null, .null, .null, .int 0, .int 0]))] sz) (wTa u cI (fun _ => 0) (fun _ => 0) (fun _ => 0) (fun _ => 0) (nI 0) (nI 0)) () t) (va_A [(q, .inr (2, [.null, .null, .null, .null, .int 0, .int 0]))] sz)) 4 120 (va_A [(q, .inr (2, [.null, .null, .null, .null, .int 0, .int 0]))] sz) := by
  refine Met.ofW (cc := cX2_init) (maxL := 1) (ret := none) (by decide) rfl ?_
  intro p e s m args below meth c s₁ B hml hv
  obtain ⟨rfl, hsz, hP, hK, hD0⟩ := hv
  have hx := B.exec
  have hb := B.bytes
  have hr := B.returns
  have hts := atoms_spec (ws := wsX2_init) B.pre
  have hown : s.vm.findClass RX2 = some m.cls := findClass_of_methodNamed B.named
  have hlocks := B.notSynchronized
  have hin : meth.name = "<init>" := (name_of_methodNamed B.named B.method).1
  subst hsz
  have hD := hD0.self (sz := s.heap.size)
  generalize hAe : va_A [(q, .inr (2, [.null, .null, .null, .null, .int 0, .int 0]))] s.heap.size = A at hD ⊢
  have hA : ∀ q : Nat, s.heap.size ≤ q → A q := fun q h => by rw [← hAe]; exact Or.inr h
  have hS : va_S A s.heap s.heap [] := va_S.rf
  have hl := lv_entry ([.ref q]) (n := 1) (Nat.le_of_ble_eq_true rfl)
  rw [lg_entry_eq]
  generalize (lg_sl ([.ref q]) ++ List.replicate (1 - (lg_sl ([.ref q])).length) Slot.unset).toArray = ls at hl ⊢
  have hl : lv_has ls 1 [(0, .ref q)] := hl
  have hinX : ∀ w ∈ wsX20, w ∈ wsX2_init := by decide +kernel
  refine lv_aload_n hx hb dX2_init_0 rfl (lv_at hl 0 rfl) ?_
  refine W.objInit hx hb hown (hts (.methodLink RX2 3 objectInit) (by decide +kernel)) (hts (.instanceMethod objectInit) (by decide +kernel)) (hts (.code objectInit ⟨#[0xb1]⟩ 1 none) (by decide +kernel)) rfl (by rw [hml]; exact hl.1) rfl dX2_init_1 (Nat.le_of_ble_eq_true rfl) (Nat.le_of_ble_eq_true rfl) ?_
  refine W.eq (g2 := F0 m 4 ls []) rfl ?_
  refine lv_aload_n hx hb dX2_init_4 rfl (lv_at hl 0 rfl) ?_
  refine lv_bipush (v := 30) hx hb dX2_init_5 (by decide) ?_
  refine va_newa (atype := .int) (ty := .int) hx hb (hts (.arrayClass .int) (by decide +kernel)) rfl hK hP hD hS hA (n := 30) (N' := 30) (a0 := (30, .inl (fun _ => 0))) (fun _ => rfl) (by decide) rfl (by decide) (Nat.le_of_ble_eq_true rfl) (Nat.le_of_ble_eq_true rfl) dX2_init_7 (fun q0 cX H hKX hP hD hS => ?_)
  have eX : cX = cI := zq_sameI hKX hK 0 rfl
  rw [eX] at hP hD
  have hP : va_P (dC, dI) vwCl [(q, .inr (2, [.null, .null, .null, .null, .int 0, .int 0])), (q0, .inl (cI, 30, .inl (fun _ => 0)))] H := hP
  have hD : va_D A [(q, .inr (2, [.null, .null, .null, .null, .int 0, .int 0])), (q0, .inl (cI, 30, .inl (fun _ => 0)))] := hD
  refine va_putF (D := (dC, dI)) (ci := 2) (v := .ref q0) (ty := .array .int) (C := RX2) (T := TX2) (N := 6) hx hb hts hinX tyX2 tyX2_ok nmX2 hown hK hP hD hS 0 rfl rfl 0 (by decide) (hts (.fieldLink RX2 9 "LampRoom$Tallies" "kinds" "[I") (by decide +kernel)) (fun _ h9 => h9) rfl hin rfl (by decide +kernel) rfl rfl (Nat.le_of_ble_eq_true rfl) dX2_init_9 (fun H locs hP hD hS => ?_)
  have hP : va_P (dC, dI) vwCl [(q, .inr (2, [.ref q0, .null, .null, .null, .int 0, .int 0])), (q0, .inl (cI, 30, .inl (fun _ => 0)))] H := hP
  have hD : va_D A [(q, .inr (2, [.ref q0, .null, .null, .null, .int 0, .int 0])), (q0, .inl (cI, 30, .inl (fun _ => 0)))] := hD
  refine lv_aload_n hx hb dX2_init_12 rfl (lv_at hl 0 rfl) ?_
  refine lv_bipush (v := 30) hx hb dX2_init_13 (by decide) ?_
  refine va_newa (atype := .int) (ty := .int) hx hb (hts (.arrayClass .int) (by decide +kernel)) rfl hK hP hD hS hA (n := 30) (N' := 30) (a0 := (30, .inl (fun _ => 0))) (fun _ => rfl) (by decide) rfl (by decide) (Nat.le_of_ble_eq_true rfl) (Nat.le_of_ble_eq_true rfl) dX2_init_15 (fun q1 cX H hKX hP hD hS => ?_)
  have eX : cX = cI := zq_sameI hKX hK 0 rfl
  rw [eX] at hP hD
  have hP : va_P (dC, dI) vwCl [(q, .inr (2, [.ref q0, .null, .null, .null, .int 0, .int 0])), (q0, .inl (cI, 30, .inl (fun _ => 0))), (q1, .inl (cI, 30, .inl (fun _ => 0)))] H := hP
  have hD : va_D A [(q, .inr (2, [.ref q0, .null, .null, .null, .int 0, .int 0])), (q0, .inl (cI, 30, .inl (fun _ => 0))), (q1, .inl (cI, 30, .inl (fun _ => 0)))] := hD
  refine va_putF (D := (dC, dI)) (ci := 2) (v := .ref q1) (ty := .array .int) (C := RX2) (T := TX2) (N := 6) hx hb hts hinX tyX2 tyX2_ok nmX2 hown hK hP hD hS 0 rfl rfl 1 (by decide) (hts (.fieldLink RX2 15 "LampRoom$Tallies" "held" "[I") (by decide +kernel)) (fun _ h9 => h9) rfl hin rfl (by decide +kernel) rfl rfl (Nat.le_of_ble_eq_true rfl) dX2_init_17 (fun H locs hP hD hS => ?_)
  have hP : va_P (dC, dI) vwCl [(q, .inr (2, [.ref q0, .ref q1, .null, .null, .int 0, .int 0])), (q0, .inl (cI, 30, .inl (fun _ => 0))), (q1, .inl (cI, 30, .inl (fun _ => 0)))] H := hP
  have hD : va_D A [(q, .inr (2, [.ref q0, .ref q1, .null, .null, .int 0, .int 0])), (q0, .inl (cI, 30, .inl (fun _ => 0))), (q1, .inl (cI, 30, .inl (fun _ => 0)))] := hD
  refine lv_aload_n hx hb dX2_init_20 rfl (lv_at hl 0 rfl) ?_
  refine lv_bipush (v := 30) hx hb dX2_init_21 (by decide) ?_
  refine va_newa (atype := .int) (ty := .int) hx hb (hts (.arrayClass .int) (by decide +kernel)) rfl hK hP hD hS hA (n := 30) (N' := 30) (a0 := (30, .inl (fun _ => 0))) (fun _ => rfl) (by decide) rfl (by decide) (Nat.le_of_ble_eq_true rfl) (Nat.le_of_ble_eq_true rfl) dX2_init_23 (fun q2 cX H hKX hP hD hS => ?_)
  have eX : cX = cI := zq_sameI hKX hK 0 rfl
  rw [eX] at hP hD
  have hP : va_P (dC, dI) vwCl [(q, .inr (2, [.ref q0, .ref q1, .null, .null, .int 0, .int 0])), (q0, .inl (cI, 30, .inl (fun _ => 0))), (q1, .inl (cI, 30, .inl (fun _ => 0))), (q2, .inl (cI, 30, .inl (fun _ => 0)))] H := hP
  have hD : va_D A [(q, .inr (2, [.ref q0, .ref q1, .null, .null, .int 0, .int 0])), (q0, .inl (cI, 30, .inl (fun _ => 0))), (q1, .inl (cI, 30, .inl (fun _ => 0))), (q2, .inl (cI, 30, .inl (fun _ => 0)))] := hD
  refine va_putF (D := (dC, dI)) (ci := 2) (v := .ref q2) (ty := .array .int) (C := RX2) (T := TX2) (N := 6) hx hb hts hinX tyX2 tyX2_ok nmX2 hown hK hP hD hS 0 rfl rfl 2 (by decide) (hts (.fieldLink RX2 18 "LampRoom$Tallies" "hours" "[I") (by decide +kernel)) (fun _ h9 => h9) rfl hin rfl (by decide +kernel) rfl rfl (Nat.le_of_ble_eq_true rfl) dX2_init_25 (fun H locs hP hD hS => ?_)
  have hP : va_P (dC, dI) vwCl [(q, .inr (2, [.ref q0, .ref q1, .ref q2, .null, .int 0, .int 0])), (q0, .inl (cI, 30, .inl (fun _ => 0))), (q1, .inl (cI, 30, .inl (fun _ => 0))), (q2, .inl (cI, 30, .inl (fun _ => 0)))] H := hP
  have hD : va_D A [(q, .inr (2, [.ref q0, .ref q1, .ref q2, .null, .int 0, .int 0])), (q0, .inl (cI, 30, .inl (fun _ => 0))), (q1, .inl (cI, 30, .inl (fun _ => 0))), (q2, .inl (cI, 30, .inl (fun _ => 0)))] := hD
  refine lv_aload_n hx hb dX2_init_28 rfl (lv_at hl 0 rfl) ?_
  refine lv_bipush (v := 30) hx hb dX2_init_29 (by decide) ?_
  refine va_newa (atype := .int) (ty := .int) hx hb (hts (.arrayClass .int) (by decide +kernel)) rfl hK hP hD hS hA (n := 30) (N' := 30) (a0 := (30, .inl (fun _ => 0))) (fun _ => rfl) (by decide) rfl (by decide) (Nat.le_of_ble_eq_true rfl) (Nat.le_of_ble_eq_true rfl) dX2_init_31 (fun q3 cX H hKX hP hD hS => ?_)
  have eX : cX = cI := zq_sameI hKX hK 0 rfl
  rw [eX] at hP hD
  have hP : va_P (dC, dI) vwCl [(q, .inr (2, [.ref q0, .ref q1, .ref q2, .null, .int 0, .int 0])), (q0, .inl (cI, 30, .inl (fun _ => 0))), (q1, .inl (cI, 30, .inl (fun _ => 0))), (q2, .inl (cI, 30, .inl (fun _ => 0))), (q3, .inl (cI, 30, .inl (fun _ => 0)))] H := hP
  have hD : va_D A [(q, .inr (2, [.ref q0, .ref q1, .ref q2, .null, .int 0, .int 0])), (q0, .inl (cI, 30, .inl (fun _ => 0))), (q1, .inl (cI, 30, .inl (fun _ => 0))), (q2, .inl (cI, 30, .inl (fun _ => 0))), (q3, .inl (cI, 30, .inl (fun _ => 0)))] := hD
  refine va_putF (D := (dC, dI)) (ci := 2) (v := .ref q3) (ty := .array .int) (C := RX2) (T := TX2) (N := 6) hx hb hts hinX tyX2 tyX2_ok nmX2 hown hK hP hD hS 0 rfl rfl 3 (by decide) (hts (.fieldLink RX2 21 "LampRoom$Tallies" "orders" "[I") (by decide +kernel)) (fun _ h9 => h9) rfl hin rfl (by decide +kernel) rfl rfl (Nat.le_of_ble_eq_true rfl) dX2_init_33 (fun H locs hP hD hS => ?_)
  have hP : va_P (dC, dI) vwCl [(q, .inr (2, [.ref q0, .ref q1, .ref q2, .ref q3, .int 0, .int 0])), (q0, .inl (cI, 30, .inl (fun _ => 0))), (q1, .inl (cI, 30, .inl (fun _ => 0))), (q2, .inl (cI, 30, .inl (fun _ => 0))), (q3, .inl (cI, 30, .inl (fun _ => 0)))] H := hP
  have hD : va_D A [(q, .inr (2, [.ref q0, .ref q1, .ref q2, .ref q3, .int 0, .int 0])), (q0, .inl (cI, 30, .inl (fun _ => 0))), (q1, .inl (cI, 30, .inl (fun _ => 0))), (q2, .inl (cI, 30, .inl (fun _ => 0))), (q3, .inl (cI, 30, .inl (fun _ => 0)))] := hD
  refine lv_aload_n hx hb dX2_init_36 rfl (lv_at hl 0 rfl) ?_
  refine lv_iconst (v := 0) hx hb dX2_init_37 (by decide) ?_
  refine va_put (D := (dC, dI)) (ci := 2) (v := .int 0) (ty := .int) (C := RX2) (T := TX2) (N := 6) hx hb hts hinX tyX2 tyX2_ok nmX2 hown hK hP hD hS 0 rfl rfl 4 (by decide) (hts (.fieldLink RX2 24 "LampRoom$Tallies" "count" "I") (by decide +kernel)) (fun _ h9 => h9) rfl (by decide +kernel) rfl rfl (Nat.le_of_ble_eq_true rfl) dX2_init_38 (fun H locs hP hD hS => ?_)
  have hP : va_P (dC, dI) vwCl [(q, .inr (2, [.ref q0, .ref q1, .ref q2, .ref q3, .int 0, .int 0])), (q0, .inl (cI, 30, .inl (fun _ => 0))), (q1, .inl (cI, 30, .inl (fun _ => 0))), (q2, .inl (cI, 30, .inl (fun _ => 0))), (q3, .inl (cI, 30, .inl (fun _ => 0)))] H := hP
  have hD : va_D A [(q, .inr (2, [.ref q0, .ref q1, .ref q2, .ref q3, .int 0, .int 0])), (q0, .inl (cI, 30, .inl (fun _ => 0))), (q1, .inl (cI, 30, .inl (fun _ => 0))), (q2, .inl (cI, 30, .inl (fun _ => 0))), (q3, .inl (cI, 30, .inl (fun _ => 0)))] := hD
  refine lv_aload_n hx hb dX2_init_41 rfl (lv_at hl 0 rfl) ?_
  refine lv_iconst (v := 0) hx hb dX2_init_42 (by decide) ?_
  refine va_put (D := (dC, dI)) (ci := 2) (v := .int 0) (ty := .int) (C := RX2) (T := TX2) (N := 6) hx hb hts hinX tyX2 tyX2_ok nmX2 hown hK hP hD hS 0 rfl rfl 5 (by decide) (hts (.fieldLink RX2 28 "LampRoom$Tallies" "issued" "I") (by decide +kernel)) (fun _ h9 => h9) rfl (by decide +kernel) rfl rfl (Nat.le_of_ble_eq_true rfl) dX2_init_43 (fun H locs hP hD hS => ?_)
  have hP : va_P (dC, dI) vwCl [(q, .inr (2, [.ref q0, .ref q1, .ref q2, .ref q3, .int 0, .int 0])), (q0, .inl (cI, 30, .inl (fun _ => 0))), (q1, .inl (cI, 30, .inl (fun _ => 0))), (q2, .inl (cI, 30, .inl (fun _ => 0))), (q3, .inl (cI, 30, .inl (fun _ => 0)))] H := hP
  have hD : va_D A [(q, .inr (2, [.ref q0, .ref q1, .ref q2, .ref q3, .int 0, .int 0])), (q0, .inl (cI, 30, .inl (fun _ => 0))), (q1, .inl (cI, 30, .inl (fun _ => 0))), (q2, .inl (cI, 30, .inl (fun _ => 0))), (q3, .inl (cI, 30, .inl (fun _ => 0)))] := hD
  refine W.widen (k := 4) (n := 120) (Nat.le_of_ble_eq_true rfl) (Nat.le_of_ble_eq_true rfl) ?_
  exact W.vret hx hb hr (fun t ht hW => ⟨⟨(fun k => [0, 0, 0, 0, 0, 0, 0, 0, q, q0, q1, q2, q3].getD k 0), rfl, rfl, by rw [ht]; exact hP, va_K.moved hW.alike hK, hD⟩, hS.F ht⟩) hS.2.2 dX2_init_46
end
section
/-- the nest's links of the room's constructor -/
def zn_W (U : State) : Prop := va_Nw (.methodLinkNest RX3 9 yX1_init RX3) U ∧ va_Nw (.methodLinkNest RX3 18 yX2_init RX3) U ∧ va_Nw (.methodLinkNest RX3 25 yX0_init RX3) U
theorem zn_W.warm {s U : State} (hW : s.WarmedH U.vm) (h : zn_W s) : zn_W U := ⟨va_Nw.warmM hW h.1, va_Nw.warmM hW h.2.1, va_Nw.warmM hW h.2.2⟩
theorem zn_W.same {s U : State} (hv : U.vm = s.vm) (h : zn_W s) : zn_W U := ⟨va_Nw.same rfl hv.symm h.1, va_Nw.same rfl hv.symm h.2.1, va_Nw.same rfl hv.symm h.2.2⟩
section ZI
variable {p : Program} {l : Launch} {e : Env} {R : Room} {s : State} {m : MethodId} {args : Array Value} {below : List Frame} {meth : Method} {c : Code} {H : Heap} {locs : List Loc} {cells slots : Nat} {Q : State → Prop} {cc : ByteArray} {pc : Nat} {ls : Array Slot} {rest st0 : List Value}
variable {D : va_G} {ty : List (ClassId × FieldType)} {A : Nat → Prop} {H0 : Heap} {ws wc wr : va_W} {y : MethodName} {bytes : ByteArray} {maxL nL n index mc ms : Nat} {wsy Ts : List Cond} {rm : Room} {own host : String} {b : Nat}
theorem zq_cIN {w1 : (Nat → Nat) → va_W} {px : (Nat → Nat) → Prop} (S : CallFix p m c cc nL s args Ts own) (hM : Met l y wsy rm (va_Pc [.ref b] (zq_Pre D ty wc H.size)) (va_Qv px (fun u t => zq_B D ty (va_A wc H.size) (w1 u) () t) (va_A wc H.size)) mc ms (va_A wc H.size))
    (cw : va_CN R s args own index y host bytes maxL none wsy rm mc ms 0 ∧ y.name = "<init>" ∧ (Cond.instanceMethod y).before args s = true)
    (hK : va_K D vwCl ty s) (hP : va_P D vwCl ws H) (hD : va_D A ws) (hS : va_S A H0 H locs) (hA : ∀ q, H0.size ≤ q → A q) (isC isR : List Nat) (hC : isC.map (fun i => ws[i]?) = wc.map some) (hnC : va_nd isC = true) (hR : isR.map (fun i => ws[i]?) = wr.map some) (hn : va_nd isR = true) (hdis : ∀ i ∈ isR, i ∉ isC)
    (hsz : ls.size = nL) (hst : st0 = .ref b :: rest) (hW : (rest.map fun v => v.category).sum ≤ 8) (hdg : decode cc pc = .ok (.invokespecial index, 3)) (hcs : cells + mc ≤ R.cells ∧ slots + ms ≤ R.slots)
    (kk : ∀ (u : Nat → Nat) (H1 : Heap) (locs1 : List Loc), px u → va_P D vwCl (wr ++ w1 u) H1 → va_D A (wr ++ w1 u) → va_S A H0 H1 locs1 → W p l e R s m args below meth c H1 locs1 (cells + mc) (slots + ms) Q (F0 m (pc + 3) ls rest)) : W p l e R s m args below meth c H locs cells slots Q (F0 m pc ls st0) := by
  have hFc := va_free hD hS hA isC hC
  refine va_callv (va_runIN (As := []) (rest := rest) S hM cw ⟨zq_blind, zq_pre hK hP hD isC hC hnC⟩ rfl rfl hsz hst (lv_room hW) hdg hcs) hS (fun q _ h => hFc q h) hFc (fun u t H1 locs1 ht hvm hw hB hz1 hk1 hS1 => ?_)
  obtain ⟨hP1, -, hD1⟩ := hB
  rw [ht] at hP1
  obtain ⟨hP2, hD2⟩ := va_join (wr := wr) (w1 := w1 u) hP hD isC isR hC hR hn hdis hk1 hFc hP1 hD1
  exact kk u H1 locs1 hw hP2 hD2 hS1
end ZI
set_option maxHeartbeats 4000000 in
set_option maxRecDepth 100000 in
theorem c_X3_init (l : Launch) (dC : Nat → ClassId) (dI : Nat → Nat → Nat) (cI cZ cD : ClassId) (q : Nat) (sz : Nat) : Met l yX3_init wsX3_init ({ frames := 2, cells := 14, slots := 434, locals := 32 } : Room) (va_Pc [.ref q] (fun U => zq_Pre (dC, dI) (zq_T cI cZ cD) [(q, .inr (3, [.null, .null, .null, .int 0]))] sz U ∧ zn_W U)) (va_Qv (fun u : Nat → Nat => u 0 = q) (fun u t => zq_B (dC, dI) (zq_T cI cZ cD) (va_A [(q, .inr (3, [.null, .null, .null, .int 0]))] sz) (wRo u cI cZ cD (fun _ => 0) (fun _ => 0) (fun _ => 0) (fun _ => 0) (fun _ => 0) (fun _ => 0) (nI 0) (fun _ => 0) (fun _ => 0) (fun _ => 0) (fun _ => 0) (nI 0) (nI 0) (fun _ => 0) (nI 0)) () t) (va_A [(q, .inr (3, [.null, .null, .null, .int 0]))] sz)) 14 434 (va_A [(q, .inr (3, [.null, .null, .null, .int 0]))] sz) := by
  refine Met.ofW (cc := cX3_init) (maxL := 1) (ret := none) (by decide) rfl ?_
  intro p e s m args below meth c s₁ B hml hv
  obtain ⟨rfl, ⟨hsz, hP, hK, hD0⟩, hN1, hN2, hN3⟩ := hv
  have hx := B.exec
  have hb := B.bytes
  have hr := B.returns
  have hts := atoms_spec (ws := wsX3_init) B.pre
  have hown : s.vm.findClass RX3 = some m.cls := findClass_of_methodNamed B.named
  have hlocks := B.notSynchronized
  have hin : meth.name = "<init>" := (name_of_methodNamed B.named B.method).1
  subst hsz
  have hD := hD0.self (sz := s.heap.size)
  generalize hAe : va_A [(q, .inr (3, [.null, .null, .null, .int 0]))] s.heap.size = A at hD ⊢
  have hA : ∀ q : Nat, s.heap.size ≤ q → A q := fun q h => by rw [← hAe]; exact Or.inr h
  have hS : va_S A s.heap s.heap [] := va_S.rf
  have hl := lv_entry ([.ref q]) (n := 1) (Nat.le_of_ble_eq_true rfl)
  rw [lg_entry_eq]
  generalize (lg_sl ([.ref q]) ++ List.replicate (1 - (lg_sl ([.ref q])).length) Slot.unset).toArray = ls at hl ⊢
  have hl : lv_has ls 1 [(0, .ref q)] := hl
  have hin0 : ∀ w ∈ wsX00, w ∈ wsX3_init := by decide +kernel
  have hin1 : ∀ w ∈ wsX10, w ∈ wsX3_init := by decide +kernel
  have hin2 : ∀ w ∈ wsX20, w ∈ wsX3_init := by decide +kernel
  have hin3 : ∀ w ∈ wsX30, w ∈ wsX3_init := by decide +kernel
  refine lv_aload_n hx hb dX3_init_0 rfl (lv_at hl 0 rfl) ?_
  refine W.objInit hx hb hown (hts (.methodLink RX3 1 objectInit) (by decide +kernel)) (hts (.instanceMethod objectInit) (by decide +kernel)) (hts (.code objectInit ⟨#[0xb1]⟩ 1 none) (by decide +kernel)) rfl (by rw [hml]; exact hl.1) rfl dX3_init_1 (Nat.le_of_ble_eq_true rfl) (Nat.le_of_ble_eq_true rfl) ?_
  refine W.eq (g2 := F0 m 4 ls []) rfl ?_
  refine lv_aload_n hx hb dX3_init_4 rfl (lv_at hl 0 rfl) ?_
  refine va_new (ci := 1) (fs := [.null, .null, .null, .null, .null, .null, .int 0]) (C := RX1) (T := TX1) (N := 7) hx hb hts hin1 tyX1 tyX1_ok hown (hts (.classLink RX3 7 RX1) (by decide +kernel)) (hts (.instantiable RX1 7) (by decide +kernel)) (hts (.initialized RX1) (by decide +kernel)) hK hP hD hS hA rfl (fun j hj => by rcases (show j = 0 ∨ j = 1 ∨ j = 2 ∨ j = 3 ∨ j = 4 ∨ j = 5 ∨ j = 6 by omega) with rfl | rfl | rfl | rfl | rfl | rfl | rfl <;> rfl) (Nat.le_of_ble_eq_true rfl) (Nat.le_of_ble_eq_true rfl) dX3_init_5 (fun q1 H hP hD hS => ?_)
  have hP : va_P (dC, dI) vwCl ([(q, .inr (3, [.null, .null, .null, .int 0]))] ++ [(q1, .inr (1, [.null, .null, .null, .null, .null, .null, .int 0]))]) H := hP
  have hD : va_D A ([(q, .inr (3, [.null, .null, .null, .int 0]))] ++ [(q1, .inr (1, [.null, .null, .null, .null, .null, .null, .int 0]))]) := hD
  refine lv_dup hx hb dX3_init_8 rfl ?_
  refine zq_cIN (rest := [.ref q1, .ref q]) (wc := [(q1, .inr (1, [.null, .null, .null, .null, .null, .null, .int 0]))]) (wr := [(q, .inr (3, [.null, .null, .null, .int 0]))]) (w1 := fun u1 => (wLa u1 cI cZ cD (fun _ => 0) (fun _ => 0) (fun _ => 0) (fun _ => 0) (fun _ => 0) (fun _ => 0) (nI 0))) ⟨hx, hb, hml, hown, hts⟩ (c_X1_init l dC dI cI cZ cD q1 H.size) ⟨va_cnB (host := RX3) 0 hts gX3_init_X1_init_n9 rfl rfl rfl hN1 (hts (.initialized RX1) (by decide +kernel)) (by decide +kernel) ⟨(Nat.le_of_ble_eq_true rfl), (Nat.le_of_ble_eq_true rfl)⟩, rfl, hts (.instanceMethod yX1_init) (by decide +kernel)⟩ hK hP hD hS hA [1] [0] rfl rfl rfl rfl (by decide) hl.1 rfl (Nat.le_of_ble_eq_true rfl) dX3_init_9 ⟨(Nat.le_of_ble_eq_true rfl), (Nat.le_of_ble_eq_true rfl)⟩ (fun u1 H locs hu hP hD hS => ?_)
  have hu : u1 1 = q1 := hu
  rw [← hu]
  refine va_putF (D := (dC, dI)) (ci := 3) (v := .ref (u1 1)) (ty := .object "LampRoom$Lamps") (C := RX3) (T := TX3) (N := 4) hx hb hts hin3 tyX3 tyX3_ok nmX3 hown hK hP hD hS 0 rfl rfl 0 (by decide) (hts (.fieldLink RX3 10 "LampRoom" "lamps" "LLampRoom$Lamps;") (by decide +kernel)) (fun _ h9 => h9) rfl hin rfl (by decide +kernel) rfl rfl (Nat.le_of_ble_eq_true rfl) dX3_init_12 (fun H locs hP hD hS => ?_)
  have hP : va_P (dC, dI) vwCl ([(q, .inr (3, [.ref (u1 1), .null, .null, .int 0]))] ++ (wLa u1 cI cZ cD (fun _ => 0) (fun _ => 0) (fun _ => 0) (fun _ => 0) (fun _ => 0) (fun _ => 0) (nI 0))) H := hP
  have hD : va_D A ([(q, .inr (3, [.ref (u1 1), .null, .null, .int 0]))] ++ (wLa u1 cI cZ cD (fun _ => 0) (fun _ => 0) (fun _ => 0) (fun _ => 0) (fun _ => 0) (fun _ => 0) (nI 0))) := hD
  refine lv_aload_n hx hb dX3_init_15 rfl (lv_at hl 0 rfl) ?_
  refine va_new (ci := 2) (fs := [.null, .null, .null, .null, .int 0, .int 0]) (C := RX2) (T := TX2) (N := 6) hx hb hts hin2 tyX2 tyX2_ok hown (hts (.classLink RX3 16 RX2) (by decide +kernel)) (hts (.instantiable RX2 6) (by decide +kernel)) (hts (.initialized RX2) (by decide +kernel)) hK hP hD hS hA rfl (fun j hj => by rcases (show j = 0 ∨ j = 1 ∨ j = 2 ∨ j = 3 ∨ j = 4 ∨ j = 5 by omega) with rfl | rfl | rfl | rfl | rfl | rfl <;> rfl) (Nat.le_of_ble_eq_true rfl) (Nat.le_of_ble_eq_true rfl) dX3_init_16 (fun q2 H hP hD hS => ?_)
  have hP : va_P (dC, dI) vwCl (([(q, .inr (3, [.ref (u1 1), .null, .null, .int 0]))] ++ (wLa u1 cI cZ cD (fun _ => 0) (fun _ => 0) (fun _ => 0) (fun _ => 0) (fun _ => 0) (fun _ => 0) (nI 0))) ++ [(q2, .inr (2, [.null, .null, .null, .null, .int 0, .int 0]))]) H := hP
  have hD : va_D A (([(q, .inr (3, [.ref (u1 1), .null, .null, .int 0]))] ++ (wLa u1 cI cZ cD (fun _ => 0) (fun _ => 0) (fun _ => 0) (fun _ => 0) (fun _ => 0) (fun _ => 0) (nI 0))) ++ [(q2, .inr (2, [.null, .null, .null, .null, .int 0, .int 0]))]) := hD
  refine lv_dup hx hb dX3_init_19 rfl ?_
  refine zq_cIN (rest := [.ref q2, .ref q]) (wc := [(q2, .inr (2, [.null, .null, .null, .null, .int 0, .int 0]))]) (wr := ([(q, .inr (3, [.ref (u1 1), .null, .null, .int 0]))] ++ (wLa u1 cI cZ cD (fun _ => 0) (fun _ => 0) (fun _ => 0) (fun _ => 0) (fun _ => 0) (fun _ => 0) (nI 0)))) (w1 := fun u2 => (wTa u2 cI (fun _ => 0) (fun _ => 0) (fun _ => 0) (fun _ => 0) (nI 0) (nI 0))) ⟨hx, hb, hml, hown, hts⟩ (c_X2_init l dC dI cI cZ cD q2 H.size) ⟨va_cnB (host := RX3) 0 hts gX3_init_X2_init_n18 rfl rfl rfl hN2 (hts (.initialized RX2) (by decide +kernel)) (by decide +kernel) ⟨(Nat.le_of_ble_eq_true rfl), (Nat.le_of_ble_eq_true rfl)⟩, rfl, hts (.instanceMethod yX2_init) (by decide +kernel)⟩ hK hP hD hS hA [8] [0, 1, 2, 3, 4, 5, 6, 7] rfl rfl rfl rfl (by decide) hl.1 rfl (Nat.le_of_ble_eq_true rfl) dX3_init_20 ⟨(Nat.le_of_ble_eq_true rfl), (Nat.le_of_ble_eq_true rfl)⟩ (fun u2 H locs hu hP hD hS => ?_)
  have hu : u2 8 = q2 := hu
  rw [← hu]
  refine va_putF (D := (dC, dI)) (ci := 3) (v := .ref (u2 8)) (ty := .object "LampRoom$Tallies") (C := RX3) (T := TX3) (N := 4) hx hb hts hin3 tyX3 tyX3_ok nmX3 hown hK hP hD hS 0 rfl rfl 1 (by decide) (hts (.fieldLink RX3 19 "LampRoom" "tallies" "LLampRoom$Tallies;") (by decide +kernel)) (fun _ h9 => h9) rfl hin rfl (by decide +kernel) rfl rfl (Nat.le_of_ble_eq_true rfl) dX3_init_23 (fun H locs hP hD hS => ?_)
  have hP : va_P (dC, dI) vwCl (([(q, .inr (3, [.ref (u1 1), .ref (u2 8), .null, .int 0]))] ++ (wLa u1 cI cZ cD (fun _ => 0) (fun _ => 0) (fun _ => 0) (fun _ => 0) (fun _ => 0) (fun _ => 0) (nI 0))) ++ (wTa u2 cI (fun _ => 0) (fun _ => 0) (fun _ => 0) (fun _ => 0) (nI 0) (nI 0))) H := hP
  have hD : va_D A (([(q, .inr (3, [.ref (u1 1), .ref (u2 8), .null, .int 0]))] ++ (wLa u1 cI cZ cD (fun _ => 0) (fun _ => 0) (fun _ => 0) (fun _ => 0) (fun _ => 0) (fun _ => 0) (nI 0))) ++ (wTa u2 cI (fun _ => 0) (fun _ => 0) (fun _ => 0) (fun _ => 0) (nI 0) (nI 0))) := hD
  refine lv_aload_n hx hb dX3_init_26 rfl (lv_at hl 0 rfl) ?_
  refine va_new (ci := 0) (fs := [.null]) (C := RX0) (T := TX0) (N := 1) hx hb hts hin0 tyX0 tyX0_ok hown (hts (.classLink RX3 23 RX0) (by decide +kernel)) (hts (.instantiable RX0 1) (by decide +kernel)) (hts (.initialized RX0) (by decide +kernel)) hK hP hD hS hA rfl (fun j hj => by rcases (show j = 0 by omega) with rfl <;> rfl) (Nat.le_of_ble_eq_true rfl) (Nat.le_of_ble_eq_true rfl) dX3_init_27 (fun q0 H hP hD hS => ?_)
  have hP : va_P (dC, dI) vwCl ((([(q, .inr (3, [.ref (u1 1), .ref (u2 8), .null, .int 0]))] ++ (wLa u1 cI cZ cD (fun _ => 0) (fun _ => 0) (fun _ => 0) (fun _ => 0) (fun _ => 0) (fun _ => 0) (nI 0))) ++ (wTa u2 cI (fun _ => 0) (fun _ => 0) (fun _ => 0) (fun _ => 0) (nI 0) (nI 0))) ++ [(q0, .inr (0, [.null]))]) H := hP
  have hD : va_D A ((([(q, .inr (3, [.ref (u1 1), .ref (u2 8), .null, .int 0]))] ++ (wLa u1 cI cZ cD (fun _ => 0) (fun _ => 0) (fun _ => 0) (fun _ => 0) (fun _ => 0) (fun _ => 0) (nI 0))) ++ (wTa u2 cI (fun _ => 0) (fun _ => 0) (fun _ => 0) (fun _ => 0) (nI 0) (nI 0))) ++ [(q0, .inr (0, [.null]))]) := hD
  refine lv_dup hx hb dX3_init_30 rfl ?_
  refine zq_cIN (rest := [.ref q0, .ref q]) (wc := [(q0, .inr (0, [.null]))]) (wr := (([(q, .inr (3, [.ref (u1 1), .ref (u2 8), .null, .int 0]))] ++ (wLa u1 cI cZ cD (fun _ => 0) (fun _ => 0) (fun _ => 0) (fun _ => 0) (fun _ => 0) (fun _ => 0) (nI 0))) ++ (wTa u2 cI (fun _ => 0) (fun _ => 0) (fun _ => 0) (fun _ => 0) (nI 0) (nI 0)))) (w1 := fun u3 => (wAl u3 cI (fun _ => 0))) ⟨hx, hb, hml, hown, hts⟩ (c_X0_init l dC dI cI cZ cD q0 H.size) ⟨va_cnB (host := RX3) 0 hts gX3_init_X0_init_n25 rfl rfl rfl hN3 (hts (.initialized RX0) (by decide +kernel)) (by decide +kernel) ⟨(Nat.le_of_ble_eq_true rfl), (Nat.le_of_ble_eq_true rfl)⟩, rfl, hts (.instanceMethod yX0_init) (by decide +kernel)⟩ hK hP hD hS hA [13] [0, 1, 2, 3, 4, 5, 6, 7, 8, 9, 10, 11, 12] rfl rfl rfl rfl (by decide) hl.1 rfl (Nat.le_of_ble_eq_true rfl) dX3_init_31 ⟨(Nat.le_of_ble_eq_true rfl), (Nat.le_of_ble_eq_true rfl)⟩ (fun u3 H locs hu hP hD hS => ?_)
  have hu : u3 13 = q0 := hu
  rw [← hu]
  refine va_putF (D := (dC, dI)) (ci := 3) (v := .ref (u3 13)) (ty := .object "LampRoom$Alarms") (C := RX3) (T := TX3) (N := 4) hx hb hts hin3 tyX3 tyX3_ok nmX3 hown hK hP hD hS 0 rfl rfl 2 (by decide) (hts (.fieldLink RX3 26 "LampRoom" "alarms" "LLampRoom$Alarms;") (by decide +kernel)) (fun _ h9 => h9) rfl hin rfl (by decide +kernel) rfl rfl (Nat.le_of_ble_eq_true rfl) dX3_init_34 (fun H locs hP hD hS => ?_)
  have hP : va_P (dC, dI) vwCl ((([(q, .inr (3, [.ref (u1 1), .ref (u2 8), .ref (u3 13), .int 0]))] ++ (wLa u1 cI cZ cD (fun _ => 0) (fun _ => 0) (fun _ => 0) (fun _ => 0) (fun _ => 0) (fun _ => 0) (nI 0))) ++ (wTa u2 cI (fun _ => 0) (fun _ => 0) (fun _ => 0) (fun _ => 0) (nI 0) (nI 0))) ++ (wAl u3 cI (fun _ => 0))) H := hP
  have hD : va_D A ((([(q, .inr (3, [.ref (u1 1), .ref (u2 8), .ref (u3 13), .int 0]))] ++ (wLa u1 cI cZ cD (fun _ => 0) (fun _ => 0) (fun _ => 0) (fun _ => 0) (fun _ => 0) (fun _ => 0) (nI 0))) ++ (wTa u2 cI (fun _ => 0) (fun _ => 0) (fun _ => 0) (fun _ => 0) (nI 0) (nI 0))) ++ (wAl u3 cI (fun _ => 0))) := hD
  refine lv_aload_n hx hb dX3_init_37 rfl (lv_at hl 0 rfl) ?_
  refine lv_iconst (v := 0) hx hb dX3_init_38 (by decide) ?_
  refine va_put (D := (dC, dI)) (ci := 3) (v := .int 0) (ty := .int) (C := RX3) (T := TX3) (N := 4) hx hb hts hin3 tyX3 tyX3_ok nmX3 hown hK hP hD hS 0 rfl rfl 3 (by decide) (hts (.fieldLink RX3 30 "LampRoom" "clock" "I") (by decide +kernel)) (fun _ h9 => h9) rfl (by decide +kernel) rfl rfl (Nat.le_of_ble_eq_true rfl) dX3_init_39 (fun H locs hP hD hS => ?_)
  refine W.widen (k := 14) (n := 434) (Nat.le_of_ble_eq_true rfl) (Nat.le_of_ble_eq_true rfl) ?_
  exact W.vret hx hb hr (fun t ht hW => ⟨⟨(fun k => [q, u1 1, u1 2, u1 3, u1 4, u1 5, u1 6, u1 7, u2 8, u2 9, u2 10, u2 11, u2 12, u3 13, u3 14].getD k 0), rfl, rfl, by rw [ht]; exact hP, va_K.moved hW.alike hK, hD⟩, hS.F ht⟩) hS.2.2 dX3_init_42
end
section
/-! the law's contracts: one exact answer, one exact new world, at least one cell more; calls of them -/
abbrev zg_M (l : Launch) (y : MethodName) (wsy : List Cond) (rm : Room) (D : va_G) (ty : List (ClassId × FieldType)) (as : List Value) (w0 : va_W) (res : Int32) (w1 : va_W) (sz k n : Nat) : Prop :=
  Met l y wsy rm (va_Pc as (zx_Pre D ty w0 sz)) (va_Qi (fun (r : Int32) (_ : Unit) => r = res) (fun (_ : Unit) (t : State) => zq_B D ty (va_A w0 sz) w1 () t ∧ sz + 1 ≤ t.heap.size) (va_A w0 sz)) k n (va_A w0 sz)
abbrev zl_M (l : Launch) (y : MethodName) (wsy : List Cond) (rm : Room) (D : va_G) (ty : List (ClassId × FieldType)) (as : List Value) (w0 : va_W) (res : Int32) (sz : Nat) : Prop := zg_M l y wsy rm D ty as w0 res w0 sz 1 6
theorem zg_qi {D : va_G} {ty : List (ClassId × FieldType)} {A : Nat → Prop} {w1 : va_W} {s : State} {H : Heap} {locs : List Loc} {args : Array Value} {v res : Int32} (hv : v = res) (hP : va_P D vwCl w1 H) (hK : va_K D vwCl ty s) (hD : va_D A w1) (hS : va_S A s.heap H locs) (hG : s.heap.size + 1 ≤ H.size) : ∀ t : State, t.heap = H → s.WarmedH t.vm → va_Qi (fun (r : Int32) (_ : Unit) => r = res) (fun (_ : Unit) (t : State) => zq_B D ty A w1 () t ∧ s.heap.size + 1 ≤ t.heap.size) A args s (.returned (some (.int v))) t :=
  fun t ht hW => ⟨⟨v, (), rfl, hv, ⟨by rw [ht]; exact hP, va_K.moved hW.alike hK, hD⟩, by rw [ht]; exact hG⟩, hS.F ht⟩
section LQ
variable {p : Program} {l : Launch} {e : Env} {R : Room} {s : State} {m : MethodId} {args : Array Value} {below : List Frame} {meth : Method} {c : Code} {H : Heap} {locs : List Loc} {cells slots : Nat} {Q : State → Prop} {cc : ByteArray} {pc : Nat} {ls : Array Slot} {rest st0 : List Value}
variable {D : va_G} {ty : List (ClassId × FieldType)} {A : Nat → Prop} {H0 : Heap} {ws wc wr w1 ws' : va_W} {y : MethodName} {bytes : ByteArray} {maxL nL n index : Nat} {ret : Option FieldType} {hh : List (Nat × Nat × Nat × Nat)} {wsy Ts : List Cond} {rm : Room} {own : String} {As : List Value}
/-- a static call of a method with a table, on some of the cells -/
theorem zq_cWi {res : Int32} (S : CallFix p m c cc nL s args Ts own) (hM : zq_Mi l y wsy rm D ty As wc res w1 H.size) (cw : vx_CSW R s args own index y bytes maxL ret hh wsy rm 0 0 n)
    (hK : va_K D vwCl ty s) (hP : va_P D vwCl ws H) (hD : va_D A ws) (hS : va_S A H0 H locs) (hA : ∀ q, H0.size ≤ q → A q) (isC isR pm : List Nat) (hC : isC.map (fun i => ws[i]?) = wc.map some) (hnC : va_nd isC = true) (hR : isR.map (fun i => ws[i]?) = wr.map some) (hn : va_nd isR = true) (hdis : ∀ i ∈ isR, i ∉ isC)
    (hpm : pm.map (fun i => (wr ++ w1)[i]?) = ws'.map some) (hnp : va_nd pm = true) (hln : As.length = n) (hsz : ls.size = nL) (hst : st0 = As.reverse ++ rest) (hW : (rest.map fun v => v.category).sum ≤ 8) (hdg : decode cc pc = .ok (.invokestatic index, 3)) (hcs : cells ≤ R.cells ∧ slots ≤ R.slots)
    (kk : ∀ (H1 : Heap) (locs1 : List Loc), va_P D vwCl ws' H1 → va_D A ws' → va_S A H0 H1 locs1 → W p l e R s m args below meth c H1 locs1 cells slots Q (F0 m (pc + 3) ls (.int res :: rest))) : W p l e R s m args below meth c H locs cells slots Q (F0 m pc ls st0) := by
  have hFc := va_free hD hS hA isC hC
  refine va_calli (vx_runSW (As := As) (rest := rest) S hM cw ⟨zq_blind, zq_pre hK hP hD isC hC hnC⟩ rfl hln hsz hst (lv_room hW) hdg hcs) hS (fun q _ h => hFc q h) hFc (fun r u t H1 locs1 ht hvm hw hB hz1 hk1 hS1 => ?_)
  subst hw
  obtain ⟨h1, h2⟩ := zq_back hP hD hS hA isC isR hC hR hn hdis pm hpm hnp ht hk1 hB
  exact kk H1 locs1 h1 h2 hS1
theorem zl_cWi {res : Int32} (S : CallFix p m c cc nL s args Ts own) (hM : zl_M l y wsy rm D ty As wc res H.size) (cw : vx_CSW R s args own index y bytes maxL ret hh wsy rm 1 6 n)
    (hK : va_K D vwCl ty s) (hP : va_P D vwCl ws H) (hD : va_D A ws) (hS : va_S A H0 H locs) (hA : ∀ q, H0.size ≤ q → A q) (hH : zx_H A s H) (hE : zx_E s) (isC isR pm : List Nat) (hC : isC.map (fun i => ws[i]?) = wc.map some) (hnC : va_nd isC = true) (hR : isR.map (fun i => ws[i]?) = wr.map some) (hn : va_nd isR = true) (hdis : ∀ i ∈ isR, i ∉ isC)
    (hpm : pm.map (fun i => (wr ++ wc)[i]?) = ws.map some) (hnp : va_nd pm = true) (hln : As.length = n) (hsz : ls.size = nL) (hst : st0 = As.reverse ++ rest) (hW : (rest.map fun v => v.category).sum ≤ 8) (hdg : decode cc pc = .ok (.invokestatic index, 3)) (hcs : cells + 1 ≤ R.cells ∧ slots + 6 ≤ R.slots)
    (kk : ∀ (H1 : Heap) (locs1 : List Loc), va_P D vwCl ws H1 → va_D A ws → va_S A H0 H1 locs1 → H0.size + 1 ≤ H1.size → W p l e R s m args below meth c H1 locs1 (cells + 1) (slots + 6) Q (F0 m (pc + 3) ls (.int res :: rest))) : W p l e R s m args below meth c H locs cells slots Q (F0 m pc ls st0) := by
  have hFc := va_free hD hS hA isC hC
  refine va_calli (vx_runSW (As := As) (rest := rest) S hM cw ⟨zx_blind, zx_pre hK hP hD hS hA hH hE isC hC hnC⟩ rfl hln hsz hst (lv_room hW) hdg hcs) hS (fun q _ h => hFc q h) hFc (fun r u t H1 locs1 ht hvm hw hB hz1 hk1 hS1 => ?_)
  subst hw
  obtain ⟨hB, hG9⟩ := hB
  have hG : H0.size + 1 ≤ H1.size := Nat.le_trans (Nat.succ_le_succ hS.1) (by rw [← ht]; exact hG9)
  obtain ⟨h1, h2⟩ := zq_back hP hD hS hA isC isR hC hR hn hdis pm hpm hnp ht hk1 hB
  exact kk H1 locs1 h1 h2 hS1 hG
/-- a static call of such a method without a table -/
theorem zg_cSi {res : Int32} {k9 n9 : Nat} (S : CallFix p m c cc nL s args Ts own) (hM : zg_M l y wsy rm D ty As wc res w1 H.size k9 n9) (cw : CallB R s args own index y bytes maxL ret wsy rm k9 n9 n ∧ (Cond.static y).before args s = true)
    (hK : va_K D vwCl ty s) (hP : va_P D vwCl ws H) (hD : va_D A ws) (hS : va_S A H0 H locs) (hA : ∀ q, H0.size ≤ q → A q) (hH : zx_H A s H) (hE : zx_E s) (isC isR pm : List Nat) (hC : isC.map (fun i => ws[i]?) = wc.map some) (hnC : va_nd isC = true) (hR : isR.map (fun i => ws[i]?) = wr.map some) (hn : va_nd isR = true) (hdis : ∀ i ∈ isR, i ∉ isC)
    (hpm : pm.map (fun i => (wr ++ w1)[i]?) = ws'.map some) (hnp : va_nd pm = true) (hln : As.length = n) (hsz : ls.size = nL) (hst : st0 = As.reverse ++ rest) (hW : (rest.map fun v => v.category).sum ≤ 8) (hdg : decode cc pc = .ok (.invokestatic index, 3)) (hcs : cells + k9 ≤ R.cells ∧ slots + n9 ≤ R.slots)
    (kk : ∀ (H1 : Heap) (locs1 : List Loc), va_P D vwCl ws' H1 → va_D A ws' → va_S A H0 H1 locs1 → H.size + 1 ≤ H1.size → W p l e R s m args below meth c H1 locs1 (cells + k9) (slots + n9) Q (F0 m (pc + 3) ls (.int res :: rest))) : W p l e R s m args below meth c H locs cells slots Q (F0 m pc ls st0) := by
  have hFc := va_free hD hS hA isC hC
  refine va_calli (va_runS (As := As) (rest := rest) S hM cw ⟨zx_blind, zx_pre hK hP hD hS hA hH hE isC hC hnC⟩ rfl hln hsz hst (lv_room hW) hdg hcs) hS (fun q _ h => hFc q h) hFc (fun r u t H1 locs1 ht hvm hw hB hz1 hk1 hS1 => ?_)
  subst hw
  obtain ⟨hB, hG9⟩ := hB
  obtain ⟨h1, h2⟩ := zq_back hP hD hS hA isC isR hC hR hn hdis pm hpm hnp ht hk1 hB
  exact kk H1 locs1 h1 h2 hS1 (by rw [← ht]; exact hG9)
end LQ
abbrev wAr (v : Nat → Nat) (cI cD : ClassId) (lL : Nat → Int32) (lC : Nat → UInt64) (lF : Nat → UInt64) (lW : Nat → Int32) (lM : Nat → Int32) (lB : Nat → Int32) (lH : Nat → Int32) (lR : Nat → Int32) (lD : Nat → Int32) (lG : Nat → Int32) : va_W := [(v 1, .inl (cI, 40, .inl lL)), (v 2, .inl (cD, 40, .inr (.inr (.inr (.inl lC))))), (v 3, .inl (cD, 40, .inr (.inr (.inr (.inl lF))))), (v 4, .inl (cI, 30, .inl lW)), (v 5, .inl (cI, 30, .inl lM)), (v 6, .inl (cI, 30, .inl lB)), (v 7, .inl (cI, 30, .inl lH)), (v 8, .inl (cI, 30, .inl lR)), (v 9, .inl (cI, 30, .inl lD)), (v 10, .inl (cI, 4, .inl lG))]
abbrev wLw (a v : Nat → Nat) (cI cZ cD : ClassId) (ki : Nat → Int32) (pl : Nat → Int32) (tu : Nat → Int32) (le : Nat → Int32) (ch : Nat → UInt64) (ca : Nat → UInt64) (n : Int32) (tk : Nat → Int32) (th : Nat → Int32) (hu : Nat → Int32) (od : Nat → Int32) (tn : Int32) (ti : Int32) (be : Nat → Int32) (clk : Int32) (lL : Nat → Int32) (lC : Nat → UInt64) (lF : Nat → UInt64) (lW : Nat → Int32) (lM : Nat → Int32) (lB : Nat → Int32) (lH : Nat → Int32) (lR : Nat → Int32) (lD : Nat → Int32) (lG : Nat → Int32) : va_W := [(a 0, .inr (3, [.ref (a 1), .ref (a 8), .ref (a 13), .int clk])), (a 1, .inr (1, [.ref (a 2), .ref (a 3), .ref (a 4), .ref (a 5), .ref (a 6), .ref (a 7), .int n])), (a 2, .inl (cI, 40, .inl ki)), (a 3, .inl (cI, 40, .inl pl)), (a 4, .inl (cI, 40, .inl tu)), (a 5, .inl (cZ, 40, .inl le)), (a 6, .inl (cD, 40, .inr (.inr (.inr (.inl ch))))), (a 7, .inl (cD, 40, .inr (.inr (.inr (.inl ca))))), (a 8, .inr (2, [.ref (a 9), .ref (a 10), .ref (a 11), .ref (a 12), .int tn, .int ti])), (a 9, .inl (cI, 30, .inl tk)), (a 10, .inl (cI, 30, .inl th)), (a 11, .inl (cI, 30, .inl hu)), (a 12, .inl (cI, 30, .inl od)), (a 13, .inr (0, [.ref (a 14)])), (a 14, .inl (cI, 60, .inl be)), (v 1, .inl (cI, 40, .inl lL)), (v 2, .inl (cD, 40, .inr (.inr (.inr (.inl lC))))), (v 3, .inl (cD, 40, .inr (.inr (.inr (.inl lF))))), (v 4, .inl (cI, 30, .inl lW)), (v 5, .inl (cI, 30, .inl lM)), (v 6, .inl (cI, 30, .inl lB)), (v 7, .inl (cI, 30, .inl lH)), (v 8, .inl (cI, 30, .inl lR)), (v 9, .inl (cI, 30, .inl lD)), (v 10, .inl (cI, 4, .inl lG))]
end
section
/-! small things -/
theorem zw_top {n : Nat} (h : n < 2 ^ 31) : in_b (nI n) 0 (nI n - 1) = false := by
  cases h9 : in_b (nI n) 0 (nI n - 1) with
  | false => rfl
  | true =>
    obtain ⟨j, hj, e⟩ := in_b_of h h9
    exact absurd ((nI_eq h (by omega)).mp e) (by omega)
theorem zw_m1 {x : Int32} : in_b (-1) 0 x = false := by
  unfold in_b
  rw [show decide (¬ (-1 : Int32) < 0) = false by decide +kernel]
  rfl
theorem zw_find {hit : Nat → Bool} (n : Nat) (h : ∀ j, j < n → hit j = false) : zf_find hit n 0 = -1 := by
  have K : ∀ (f s : Nat), s + f = n → zf_find hit f s = -1 := by
    intro f
    induction f with
    | zero => exact fun _ _ => rfl
    | succ f ih =>
      intro s hs
      rw [zf_find, if_neg (by rw [h s (by omega)]; decide)]
      exact ih (s + 1) (by omega)
  exact K n 0 (by omega)
theorem zw_cnt0 {q : Nat → Bool} : ∀ n, (∀ j, j < n → q j = false) → zf_cnt q n = 0
  | 0, _ => rfl
  | n + 1, h => by
    rw [zf_cnt_f (h n (by omega))]
    exact zw_cnt0 n (fun j hj => h j (by omega))
theorem zw_cntn {q : Nat → Bool} : ∀ n, (∀ j, j < n → q j = true) → zf_cnt q n = n
  | 0, _ => rfl
  | n + 1, h => by
    rw [zf_cnt_t (h n (by omega)), zw_cntn n (fun j hj => h j (by omega))]
theorem zw_B20 : zn_p 4626322717216342016 := by
  unfold zn_p
  decide
abbrev zh (n : Nat) : UInt64 := la_sum (fun _ => 0) (fun _ => 4626322717216342016) n
theorem zh_s {n : Nat} : zh (n + 1) = FP.dadd (zh n) 4626322717216342016 := by
  show la_sum _ _ (n + 1) = _
  rw [la_sum, if_pos rfl]
theorem zw_sum {pl : Nat → Int32} {f : Nat → UInt64} : ∀ n, (∀ i, i < n → pl i = 0) → (∀ i, i < n → f i = 4626322717216342016) → la_sum pl f n = zh n
  | 0, _, _ => rfl
  | n + 1, h1, h2 => by
    rw [la_sum, if_pos (h1 n (by omega)), h2 n (by omega), zw_sum n (fun i hi => h1 i (by omega)) (fun i hi => h2 i (by omega)), zh_s]
def zush (v : Int32) : Int32 := (v.toUInt32 >>> ((1 : Int32).toUInt32 &&& Int32.toUInt32 31)).toInt32
def zlow (v n : Int32) : Int32 := zush v - zush v / n * n
end
section
set_option maxHeartbeats 4000000 in
set_option maxRecDepth 100000 in
theorem c_L_low (l : Launch) (v9 n9 : Int32) (hn : ¬ n9 = 0) : zq_Si l yL_low wsL_low ({ frames := 0, cells := 0, slots := 0, locals := 0 } : Room) [.int v9, .int n9] (zlow v9 n9) := by
  refine Met.ofW (cc := cL_low) (maxL := 2) (ret := (some .int)) (by decide) rfl ?_
  intro p e s m args below meth c s₁ B hml hv
  obtain ⟨rfl, -⟩ := hv
  have hx := B.exec
  have hb := B.bytes
  have hr := B.returns
  have hts := atoms_spec (ws := wsL_low) B.pre
  have hown : s.vm.findClass RL = some m.cls := findClass_of_methodNamed B.named
  have hlocks := B.notSynchronized
  have hS : va_S (fun _ => False) s.heap s.heap [] := va_S.rf
  have hl := lv_entry ([.int v9, .int n9]) (n := 2) (Nat.le_of_ble_eq_true rfl)
  rw [lg_entry_eq]
  generalize (lg_sl ([.int v9, .int n9]) ++ List.replicate (2 - (lg_sl ([.int v9, .int n9])).length) Slot.unset).toArray = ls at hl ⊢
  have hl : lv_has ls 2 [(0, .int v9), (1, .int n9)] := hl
  refine lv_iload_n hx hb dL_low_0 rfl (lv_at hl 0 rfl) ?_
  refine lv_iconst (v := 1) hx hb dL_low_1 (by decide) ?_
  refine lv_iushr (v := zush v9) hx hb dL_low_2 rfl ?_
  refine lv_iload_n hx hb dL_low_3 rfl (lv_at hl 1 rfl) ?_
  refine t_irem hx hb dL_low_4 hn (v := (zush v9) - (zush v9) / n9 * n9) rfl ?_
  exact W.iret (v := (zush v9) - (zush v9) / n9 * n9) hx hb hr (fun t ht hW => ⟨⟨_, (), rfl, (by rfl), trivial⟩, hS.F ht⟩) (fun q hq => (hS.2.2 q hq).elim) dL_low_5

set_option maxHeartbeats 4000000 in
set_option maxRecDepth 100000 in
theorem c_L_fresh (l : Launch)  : zq_Sd l yL_fresh wsL_fresh ({ frames := 0, cells := 0, slots := 0, locals := 0 } : Room) [.int 2] 4626322717216342016 := by
  refine Met.ofW (cc := cL_fresh) (maxL := 1) (ret := (some .double)) (by decide) rfl ?_
  intro p e s m args below meth c s₁ B hml hv
  obtain ⟨rfl, -⟩ := hv
  have hx := B.exec
  have hb := B.bytes
  have hr := B.returns
  have hts := atoms_spec (ws := wsL_fresh) B.pre
  have hown : s.vm.findClass RL = some m.cls := findClass_of_methodNamed B.named
  have hlocks := B.notSynchronized
  have hS : va_S (fun _ => False) s.heap s.heap [] := va_S.rf
  have hl := lv_entry ([.int 2]) (n := 1) (Nat.le_of_ble_eq_true rfl)
  rw [lg_entry_eq]
  generalize (lg_sl ([.int 2]) ++ List.replicate (1 - (lg_sl ([.int 2])).length) Slot.unset).toArray = ls at hl ⊢
  have hl : lv_has ls 1 [(0, .int 2)] := hl
  have hc_48 := hts (.constantDouble RL 48 (4622945017495814144)) (by decide +kernel)
  have hc_50 := hts (.constantDouble RL 50 (4616189618054758400)) (by decide +kernel)
  refine lv_ldc2d hx hb hown hc_48 dL_fresh_0 ?_
  refine lv_ldc2d hx hb hown hc_50 dL_fresh_3 ?_
  refine lv_iload_n hx hb dL_fresh_6 rfl (lv_at hl 0 rfl) ?_
  refine lv_i2d hx hb dL_fresh_7 ?_
  refine lv_dmul hx hb dL_fresh_8 (by unfold vf_n64; decide +kernel) ?_
  refine lv_dadd hx hb dL_fresh_9 (by unfold vf_n64; decide +kernel) ?_
  exact W.dret (v := FP.dadd 4622945017495814144 (FP.dmul 4616189618054758400 (FP.i2d 2))) hx hb hr (fun t ht hW => ⟨⟨_, (), rfl, (by decide +kernel), trivial⟩, hS.F ht⟩) (fun q hq => (hS.2.2 q hq).elim) dL_fresh_10

set_option maxHeartbeats 4000000 in
set_option maxRecDepth 100000 in
theorem c_L_addLamp_ok (l : Launch) (dC : Nat → ClassId) (dI : Nat → Nat → Nat) (a : Nat → Nat) (cI cZ cD : ClassId) (ki pl tu le : Nat → Int32) (ch ca : Nat → UInt64) (N : Nat) (tk th hu od : Nat → Int32) (M : Nat) (ti : Int32) (be : Nat → Int32) (clk : Int32) (hN : N ≤ 40) (hM : M ≤ 30) (k : Int32) (hk : in_b k 0 2 = true) (hf : N < 40) (sz : Nat) : zq_Mi l yL_addLamp wsL_addLamp ({ frames := 3, cells := 0, slots := 0, locals := 63 } : Room) (dC, dI) (zq_T cI cZ cD) [.ref (a 0), .int k] (wRo a cI cZ cD ki pl tu le ch ca (nI N) tk th hu od (nI M) ti be clk) (nI N) (wRo a cI cZ cD (upd ki N k) (upd pl N 0) tu le (vf_upd ch N (la_new k)) (vf_upd ca N (la_new k)) (nI (N + 1)) tk th hu od (nI M) ti be clk) sz := by
  refine va_MetW (cc := cL_addLamp) (maxL := 4) (ret := (some .int)) (by decide) rfl ?_
  intro p e s m args below meth c s₁ B hml hv
  obtain ⟨rfl, hsz, hP, hK, hD0⟩ := hv
  have hx := B.exec
  have hb := B.bytes
  have hr := B.returns
  have hts := atoms_spec (ws := wsL_addLamp) B.pre
  have hown : s.vm.findClass RL = some m.cls := findClass_of_methodNamed B.named
  have hlocks := B.notSynchronized
  subst hsz
  have hD := hD0.self (sz := s.heap.size)
  generalize hAe : va_A (wRo a cI cZ cD ki pl tu le ch ca (nI N) tk th hu od (nI M) ti be clk) s.heap.size = A at hD ⊢
  have hA : ∀ q : Nat, s.heap.size ≤ q → A q := fun q h => by rw [← hAe]; exact Or.inr h
  have hS : va_S A s.heap s.heap [] := va_S.rf
  have hP : va_P (dC, dI) vwCl (wRo a cI cZ cD ki pl tu le ch ca (nI N) tk th hu od (nI M) ti be clk) s.heap := hP
  have hl := lv_entry ([.ref (a 0), .int k]) (n := 4) (Nat.le_of_ble_eq_true rfl)
  rw [lg_entry_eq]
  generalize (lg_sl ([.ref (a 0), .int k]) ++ List.replicate (4 - (lg_sl ([.ref (a 0), .int k])).length) Slot.unset).toArray = ls at hl ⊢
  have hl : lv_has ls 4 [(0, .ref (a 0)), (1, .int k)] := hl
  refine lv_aload_n hx hb dL_addLamp_0 rfl (lv_at hl 0 rfl) ?_
  refine lv_iload_n hx hb dL_addLamp_1 rfl (lv_at hl 1 rfl) ?_
  refine zq_cVi (As := [.int k]) (rest := []) (wc := (wRo a cI cZ cD ki pl tu le ch ca (nI N) tk th hu od (nI M) ti be clk)) (w1 := (wRo a cI cZ cD (upd ki N k) (upd pl N 0) tu le (vf_upd ch N (la_new k)) (vf_upd ca N (la_new k)) (nI (N + 1)) tk th hu od (nI M) ti be clk)) (wr := ([] : va_W)) (ws' := (wRo a cI cZ cD (upd ki N k) (upd pl N 0) tu le (vf_upd ch N (la_new k)) (vf_upd ca N (la_new k)) (nI (N + 1)) tk th hu od (nI M) ti be clk)) ⟨hx, hb, hml, hown, hts⟩ (c_X3_addLamp_ok l dC dI a cI cZ cD ki pl tu le ch ca N tk th hu od M ti be clk (by omega) (by omega) k (hk) (hf) s.heap.size) (cwV 1 hts gL_addLamp_X3_addLamp rfl rfl rfl (by decide +kernel) ⟨Nat.le_of_ble_eq_true rfl, Nat.le_of_ble_eq_true rfl⟩) hK hP hD hS hA [0, 1, 2, 3, 4, 5, 6, 7, 8, 9, 10, 11, 12, 13, 14] [] [0, 1, 2, 3, 4, 5, 6, 7, 8, 9, 10, 11, 12, 13, 14] rfl rfl rfl rfl (by decide) rfl rfl (ci := 3) rfl 0 rfl rfl hl.1 rfl (Nat.le_of_ble_eq_true rfl) dL_addLamp_2 ⟨Nat.zero_le _, Nat.zero_le _⟩ (fun H locs hP hD hS => ?_)
  refine lv_istore_n (lv' := [(2, .int (nI N)), (0, .ref (a 0)), (1, .int k)]) hx hb dL_addLamp_5 rfl hl (by decide) rfl (fun ls hl => ?_)
  refine lv_goto (tgt := 17) hx hb dL_addLamp_6 (by decide) ?_
  refine lv_iload_n hx hb dL_addLamp_17 rfl (lv_at hl 0 rfl) ?_
  exact W.iret (v := nI N) hx hb hr (zq_qi rfl hP hK hD hS) hS.2.2 dL_addLamp_18

set_option maxHeartbeats 4000000 in
set_option maxRecDepth 100000 in
theorem c_L_addMiner_ok (l : Launch) (dC : Nat → ClassId) (dI : Nat → Nat → Nat) (a : Nat → Nat) (cI cZ cD : ClassId) (ki pl tu le : Nat → Int32) (ch ca : Nat → UInt64) (N : Nat) (tk th hu od : Nat → Int32) (M : Nat) (ti : Int32) (be : Nat → Int32) (clk : Int32) (hN : N ≤ 40) (hM : M ≤ 30) (k : Int32) (hk : in_b k 0 2 = true) (hf : M < 30) (sz : Nat) : zq_Mi l yL_addMiner wsL_addMiner ({ frames := 2, cells := 0, slots := 0, locals := 43 } : Room) (dC, dI) (zq_T cI cZ cD) [.ref (a 0), .int k] (wRo a cI cZ cD ki pl tu le ch ca (nI N) tk th hu od (nI M) ti be clk) (nI M) (wRo a cI cZ cD ki pl tu le ch ca (nI N) (upd tk M k) (upd th M (-1)) hu od (nI (M + 1)) ti be clk) sz := by
  refine va_MetW (cc := cL_addMiner) (maxL := 4) (ret := (some .int)) (by decide) rfl ?_
  intro p e s m args below meth c s₁ B hml hv
  obtain ⟨rfl, hsz, hP, hK, hD0⟩ := hv
  have hx := B.exec
  have hb := B.bytes
  have hr := B.returns
  have hts := atoms_spec (ws := wsL_addMiner) B.pre
  have hown : s.vm.findClass RL = some m.cls := findClass_of_methodNamed B.named
  have hlocks := B.notSynchronized
  subst hsz
  have hD := hD0.self (sz := s.heap.size)
  generalize hAe : va_A (wRo a cI cZ cD ki pl tu le ch ca (nI N) tk th hu od (nI M) ti be clk) s.heap.size = A at hD ⊢
  have hA : ∀ q : Nat, s.heap.size ≤ q → A q := fun q h => by rw [← hAe]; exact Or.inr h
  have hS : va_S A s.heap s.heap [] := va_S.rf
  have hP : va_P (dC, dI) vwCl (wRo a cI cZ cD ki pl tu le ch ca (nI N) tk th hu od (nI M) ti be clk) s.heap := hP
  have hl := lv_entry ([.ref (a 0), .int k]) (n := 4) (Nat.le_of_ble_eq_true rfl)
  rw [lg_entry_eq]
  generalize (lg_sl ([.ref (a 0), .int k]) ++ List.replicate (4 - (lg_sl ([.ref (a 0), .int k])).length) Slot.unset).toArray = ls at hl ⊢
  have hl : lv_has ls 4 [(0, .ref (a 0)), (1, .int k)] := hl
  refine lv_aload_n hx hb dL_addMiner_0 rfl (lv_at hl 0 rfl) ?_
  refine lv_iload_n hx hb dL_addMiner_1 rfl (lv_at hl 1 rfl) ?_
  refine zq_cVi (As := [.int k]) (rest := []) (wc := (wRo a cI cZ cD ki pl tu le ch ca (nI N) tk th hu od (nI M) ti be clk)) (w1 := (wRo a cI cZ cD ki pl tu le ch ca (nI N) (upd tk M k) (upd th M (-1)) hu od (nI (M + 1)) ti be clk)) (wr := ([] : va_W)) (ws' := (wRo a cI cZ cD ki pl tu le ch ca (nI N) (upd tk M k) (upd th M (-1)) hu od (nI (M + 1)) ti be clk)) ⟨hx, hb, hml, hown, hts⟩ (c_X3_addMiner_ok l dC dI a cI cZ cD ki pl tu le ch ca N tk th hu od M ti be clk (by omega) (by omega) k (hk) (hf) s.heap.size) (cwV 1 hts gL_addMiner_X3_addMiner rfl rfl rfl (by decide +kernel) ⟨Nat.le_of_ble_eq_true rfl, Nat.le_of_ble_eq_true rfl⟩) hK hP hD hS hA [0, 1, 2, 3, 4, 5, 6, 7, 8, 9, 10, 11, 12, 13, 14] [] [0, 1, 2, 3, 4, 5, 6, 7, 8, 9, 10, 11, 12, 13, 14] rfl rfl rfl rfl (by decide) rfl rfl (ci := 3) rfl 0 rfl rfl hl.1 rfl (Nat.le_of_ble_eq_true rfl) dL_addMiner_2 ⟨Nat.zero_le _, Nat.zero_le _⟩ (fun H locs hP hD hS => ?_)
  refine lv_istore_n (lv' := [(2, .int (nI M)), (0, .ref (a 0)), (1, .int k)]) hx hb dL_addMiner_5 rfl hl (by decide) rfl (fun ls hl => ?_)
  refine lv_goto (tgt := 17) hx hb dL_addMiner_6 (by decide) ?_
  refine lv_iload_n hx hb dL_addMiner_17 rfl (lv_at hl 0 rfl) ?_
  exact W.iret (v := nI M) hx hb hr (zq_qi rfl hP hK hD hS) hS.2.2 dL_addMiner_18

set_option maxHeartbeats 4000000 in
set_option maxRecDepth 100000 in
theorem c_L_ready_ok (l : Launch) (dC : Nat → ClassId) (dI : Nat → Nat → Nat) (a : Nat → Nat) (cI cZ cD : ClassId) (ki pl tu le : Nat → Int32) (ch ca : Nat → UInt64) (N : Nat) (tk th hu od : Nat → Int32) (M : Nat) (ti : Int32) (be : Nat → Int32) (clk : Int32) (hN : N ≤ 40) (hM : M ≤ 30) (k : Int32) (hk : in_b k 0 2 = true) (sz : Nat) : zq_Mi l yL_ready wsL_ready ({ frames := 3, cells := 0, slots := 0, locals := 66 } : Room) (dC, dI) (zq_T cI cZ cD) [.ref (a 0), .int k] (wRo a cI cZ cD ki pl tu le ch ca (nI N) tk th hu od (nI M) ti be clk) (nI (zf_cnt (la_is ki pl ch k) N)) (wRo a cI cZ cD ki pl tu le ch ca (nI N) tk th hu od (nI M) ti be clk) sz := by
  refine va_MetW (cc := cL_ready) (maxL := 4) (ret := (some .int)) (by decide) rfl ?_
  intro p e s m args below meth c s₁ B hml hv
  obtain ⟨rfl, hsz, hP, hK, hD0⟩ := hv
  have hx := B.exec
  have hb := B.bytes
  have hr := B.returns
  have hts := atoms_spec (ws := wsL_ready) B.pre
  have hown : s.vm.findClass RL = some m.cls := findClass_of_methodNamed B.named
  have hlocks := B.notSynchronized
  subst hsz
  have hD := hD0.self (sz := s.heap.size)
  generalize hAe : va_A (wRo a cI cZ cD ki pl tu le ch ca (nI N) tk th hu od (nI M) ti be clk) s.heap.size = A at hD ⊢
  have hA : ∀ q : Nat, s.heap.size ≤ q → A q := fun q h => by rw [← hAe]; exact Or.inr h
  have hS : va_S A s.heap s.heap [] := va_S.rf
  have hP : va_P (dC, dI) vwCl (wRo a cI cZ cD ki pl tu le ch ca (nI N) tk th hu od (nI M) ti be clk) s.heap := hP
  have hl := lv_entry ([.ref (a 0), .int k]) (n := 4) (Nat.le_of_ble_eq_true rfl)
  rw [lg_entry_eq]
  generalize (lg_sl ([.ref (a 0), .int k]) ++ List.replicate (4 - (lg_sl ([.ref (a 0), .int k])).length) Slot.unset).toArray = ls at hl ⊢
  have hl : lv_has ls 4 [(0, .ref (a 0)), (1, .int k)] := hl
  refine lv_aload_n hx hb dL_ready_0 rfl (lv_at hl 0 rfl) ?_
  refine lv_iload_n hx hb dL_ready_1 rfl (lv_at hl 1 rfl) ?_
  refine zq_cVi (As := [.int k]) (rest := []) (wc := (wRo a cI cZ cD ki pl tu le ch ca (nI N) tk th hu od (nI M) ti be clk)) (w1 := (wRo a cI cZ cD ki pl tu le ch ca (nI N) tk th hu od (nI M) ti be clk)) (wr := ([] : va_W)) (ws' := (wRo a cI cZ cD ki pl tu le ch ca (nI N) tk th hu od (nI M) ti be clk)) ⟨hx, hb, hml, hown, hts⟩ (c_X3_ready_ok l dC dI a cI cZ cD ki pl tu le ch ca N tk th hu od M ti be clk (by omega) (by omega) k (hk) s.heap.size) (cwV 1 hts gL_ready_X3_ready rfl rfl rfl (by decide +kernel) ⟨Nat.le_of_ble_eq_true rfl, Nat.le_of_ble_eq_true rfl⟩) hK hP hD hS hA [0, 1, 2, 3, 4, 5, 6, 7, 8, 9, 10, 11, 12, 13, 14] [] [0, 1, 2, 3, 4, 5, 6, 7, 8, 9, 10, 11, 12, 13, 14] rfl rfl rfl rfl (by decide) rfl rfl (ci := 3) rfl 0 rfl rfl hl.1 rfl (Nat.le_of_ble_eq_true rfl) dL_ready_2 ⟨Nat.zero_le _, Nat.zero_le _⟩ (fun H locs hP hD hS => ?_)
  refine lv_istore_n (lv' := [(2, .int (nI (zf_cnt (la_is ki pl ch k) N))), (0, .ref (a 0)), (1, .int k)]) hx hb dL_ready_5 rfl hl (by decide) rfl (fun ls hl => ?_)
  refine lv_goto (tgt := 13) hx hb dL_ready_6 (by decide) ?_
  refine lv_iload_n hx hb dL_ready_13 rfl (lv_at hl 0 rfl) ?_
  exact W.iret (v := nI (zf_cnt (la_is ki pl ch k) N)) hx hb hr (zq_qi rfl hP hK hD hS) hS.2.2 dL_ready_14

set_option maxHeartbeats 4000000 in
set_option maxRecDepth 100000 in
theorem c_L_addLamp_bad (l : Launch) (hl0 : l.stackTraces = false) (dC : Nat → ClassId) (dI : Nat → Nat → Nat) (a : Nat → Nat) (cI cZ cD : ClassId) (ki pl tu le : Nat → Int32) (ch ca : Nat → UInt64) (N : Nat) (tk th hu od : Nat → Int32) (M : Nat) (ti : Int32) (be : Nat → Int32) (clk : Int32) (hN : N ≤ 40) (hM : M ≤ 30) (k : Int32) (hk : in_b k 0 2 = false) (sz : Nat) : zl_M l yL_addLamp wsL_addLamp ({ frames := 8, cells := 1, slots := 6, locals := 131 } : Room) (dC, dI) (zq_T cI cZ cD) [.ref (a 0), .int k] (wRo a cI cZ cD ki pl tu le ch ca (nI N) tk th hu od (nI M) ti be clk) (-62) sz := by
  refine va_MetW (cc := cL_addLamp) (maxL := 4) (ret := (some .int)) (by decide) rfl ?_
  intro p e s m args below meth c s₁ B hml hv
  obtain ⟨rfl, ⟨hsz, hP, hK, hD0⟩, hH, hE⟩ := hv
  have hx := B.exec
  have hb := B.bytes
  have hr := B.returns
  have hts := atoms_spec (ws := wsL_addLamp) B.pre
  have hown : s.vm.findClass RL = some m.cls := findClass_of_methodNamed B.named
  have hlocks := B.notSynchronized
  subst hsz
  have hD := hD0.self (sz := s.heap.size)
  generalize hAe : va_A (wRo a cI cZ cD ki pl tu le ch ca (nI N) tk th hu od (nI M) ti be clk) s.heap.size = A at hD hH ⊢
  have hA : ∀ q : Nat, s.heap.size ≤ q → A q := fun q h => by rw [← hAe]; exact Or.inr h
  have hS : va_S A s.heap s.heap [] := va_S.rf
  have hP : va_P (dC, dI) vwCl (wRo a cI cZ cD ki pl tu le ch ca (nI N) tk th hu od (nI M) ti be clk) s.heap := hP
  have hl := lv_entry ([.ref (a 0), .int k]) (n := 4) (Nat.le_of_ble_eq_true rfl)
  rw [lg_entry_eq]
  generalize (lg_sl ([.ref (a 0), .int k]) ++ List.replicate (4 - (lg_sl ([.ref (a 0), .int k])).length) Slot.unset).toArray = ls at hl ⊢
  have hl : lv_has ls 4 [(0, .ref (a 0)), (1, .int k)] := hl
  have htab := vx_table (x := yL_addLamp) B (hts (.codeWith yL_addLamp cL_addLamp 4 (some .int) [(0, 6, 9, 14), (0, 6, 13, 16)]) List.mem_cons_self)
  refine lv_aload_n hx hb dL_addLamp_0 rfl (lv_at hl 0 rfl) ?_
  refine lv_iload_n hx hb dL_addLamp_1 rfl (lv_at hl 1 rfl) ?_
  refine zx_cVi (E := zx_A) (As := [.int k]) (rest := []) (wc := (wRo a cI cZ cD ki pl tu le ch ca (nI N) tk th hu od (nI M) ti be clk)) (wr := []) ⟨hx, hb, hml, hown, hts⟩ (c_X3_addLamp_bad l hl0 dC dI a cI cZ cD ki pl tu le ch ca N tk th hu od M ti be clk hN hM k hk s.heap.size) (cwV 1 hts gL_addLamp_X3_addLamp rfl rfl rfl (by decide +kernel) ⟨(Nat.le_of_ble_eq_true rfl), (Nat.le_of_ble_eq_true rfl)⟩) hK hP hD hS hA hH hE [0, 1, 2, 3, 4, 5, 6, 7, 8, 9, 10, 11, 12, 13, 14] [] [0, 1, 2, 3, 4, 5, 6, 7, 8, 9, 10, 11, 12, 13, 14] rfl rfl rfl rfl (by decide) rfl rfl (ci := 3) rfl 0 rfl rfl hl.1 rfl (Nat.le_of_ble_eq_true rfl) dL_addLamp_2 ⟨(Nat.le_of_ble_eq_true rfl), (Nat.le_of_ble_eq_true rfl)⟩ (fun H locs q9 ce hP hD hS hce hcv hcl hG => ?_)
  refine vx_catch (name := zx_A) hown [] ⟨0, 6, 9, 14⟩ [⟨0, 6, 13, 16⟩] htab (fun z hz => absurd hz List.not_mem_nil) (by decide) (by decide) (hts (.classLink RL 14 zx_A) (by decide +kernel)) (va_Nw.use rfl hE.1.1.1.1) hce hcv hcl ?_
  refine lv_astore_n (lv' := [(3, .ref q9), (0, .ref (a 0)), (1, .int k)]) hx hb dL_addLamp_9 rfl hl (by decide) rfl (fun ls hl => ?_)
  refine lv_bipush (v := (-62)) hx hb dL_addLamp_10 (by decide) ?_
  exact W.iret (v := (-62)) hx hb hr (zg_qi rfl hP hK hD hS hG) hS.2.2 dL_addLamp_12

set_option maxHeartbeats 4000000 in
set_option maxRecDepth 100000 in
theorem c_L_addMiner_bad (l : Launch) (hl0 : l.stackTraces = false) (dC : Nat → ClassId) (dI : Nat → Nat → Nat) (a : Nat → Nat) (cI cZ cD : ClassId) (ki pl tu le : Nat → Int32) (ch ca : Nat → UInt64) (N : Nat) (tk th hu od : Nat → Int32) (M : Nat) (ti : Int32) (be : Nat → Int32) (clk : Int32) (hN : N ≤ 40) (hM : M ≤ 30) (k : Int32) (hk : in_b k 0 2 = false) (sz : Nat) : zl_M l yL_addMiner wsL_addMiner ({ frames := 8, cells := 1, slots := 6, locals := 131 } : Room) (dC, dI) (zq_T cI cZ cD) [.ref (a 0), .int k] (wRo a cI cZ cD ki pl tu le ch ca (nI N) tk th hu od (nI M) ti be clk) (-62) sz := by
  refine va_MetW (cc := cL_addMiner) (maxL := 4) (ret := (some .int)) (by decide) rfl ?_
  intro p e s m args below meth c s₁ B hml hv
  obtain ⟨rfl, ⟨hsz, hP, hK, hD0⟩, hH, hE⟩ := hv
  have hx := B.exec
  have hb := B.bytes
  have hr := B.returns
  have hts := atoms_spec (ws := wsL_addMiner) B.pre
  have hown : s.vm.findClass RL = some m.cls := findClass_of_methodNamed B.named
  have hlocks := B.notSynchronized
  subst hsz
  have hD := hD0.self (sz := s.heap.size)
  generalize hAe : va_A (wRo a cI cZ cD ki pl tu le ch ca (nI N) tk th hu od (nI M) ti be clk) s.heap.size = A at hD hH ⊢
  have hA : ∀ q : Nat, s.heap.size ≤ q → A q := fun q h => by rw [← hAe]; exact Or.inr h
  have hS : va_S A s.heap s.heap [] := va_S.rf
  have hP : va_P (dC, dI) vwCl (wRo a cI cZ cD ki pl tu le ch ca (nI N) tk th hu od (nI M) ti be clk) s.heap := hP
  have hl := lv_entry ([.ref (a 0), .int k]) (n := 4) (Nat.le_of_ble_eq_true rfl)
  rw [lg_entry_eq]
  generalize (lg_sl ([.ref (a 0), .int k]) ++ List.replicate (4 - (lg_sl ([.ref (a 0), .int k])).length) Slot.unset).toArray = ls at hl ⊢
  have hl : lv_has ls 4 [(0, .ref (a 0)), (1, .int k)] := hl
  have htab := vx_table (x := yL_addMiner) B (hts (.codeWith yL_addMiner cL_addMiner 4 (some .int) [(0, 6, 9, 14), (0, 6, 13, 16)]) List.mem_cons_self)
  refine lv_aload_n hx hb dL_addMiner_0 rfl (lv_at hl 0 rfl) ?_
  refine lv_iload_n hx hb dL_addMiner_1 rfl (lv_at hl 1 rfl) ?_
  refine zx_cVi (E := zx_A) (As := [.int k]) (rest := []) (wc := (wRo a cI cZ cD ki pl tu le ch ca (nI N) tk th hu od (nI M) ti be clk)) (wr := []) ⟨hx, hb, hml, hown, hts⟩ (c_X3_addMiner_bad l hl0 dC dI a cI cZ cD ki pl tu le ch ca N tk th hu od M ti be clk hN hM k hk s.heap.size) (cwV 1 hts gL_addMiner_X3_addMiner rfl rfl rfl (by decide +kernel) ⟨(Nat.le_of_ble_eq_true rfl), (Nat.le_of_ble_eq_true rfl)⟩) hK hP hD hS hA hH hE [0, 1, 2, 3, 4, 5, 6, 7, 8, 9, 10, 11, 12, 13, 14] [] [0, 1, 2, 3, 4, 5, 6, 7, 8, 9, 10, 11, 12, 13, 14] rfl rfl rfl rfl (by decide) rfl rfl (ci := 3) rfl 0 rfl rfl hl.1 rfl (Nat.le_of_ble_eq_true rfl) dL_addMiner_2 ⟨(Nat.le_of_ble_eq_true rfl), (Nat.le_of_ble_eq_true rfl)⟩ (fun H locs q9 ce hP hD hS hce hcv hcl hG => ?_)
  refine vx_catch (name := zx_A) hown [] ⟨0, 6, 9, 14⟩ [⟨0, 6, 13, 16⟩] htab (fun z hz => absurd hz List.not_mem_nil) (by decide) (by decide) (hts (.classLink RL 14 zx_A) (by decide +kernel)) (va_Nw.use rfl hE.1.1.1.1) hce hcv hcl ?_
  refine lv_astore_n (lv' := [(3, .ref q9), (0, .ref (a 0)), (1, .int k)]) hx hb dL_addMiner_9 rfl hl (by decide) rfl (fun ls hl => ?_)
  refine lv_bipush (v := (-62)) hx hb dL_addMiner_10 (by decide) ?_
  exact W.iret (v := (-62)) hx hb hr (zg_qi rfl hP hK hD hS hG) hS.2.2 dL_addMiner_12

set_option maxHeartbeats 4000000 in
set_option maxRecDepth 100000 in
theorem c_L_test_bad (l : Launch) (hl0 : l.stackTraces = false) (dC : Nat → ClassId) (dI : Nat → Nat → Nat) (a : Nat → Nat) (cI cZ cD : ClassId) (ki pl tu le : Nat → Int32) (ch ca : Nat → UInt64) (N : Nat) (tk th hu od : Nat → Int32) (M : Nat) (ti : Int32) (be : Nat → Int32) (clk : Int32) (hN : N ≤ 40) (hM : M ≤ 30) (x : Int32) (hx0 : in_b x 0 (nI N - 1) = false) (sz : Nat) : zl_M l yL_test wsL_test ({ frames := 8, cells := 1, slots := 6, locals := 133 } : Room) (dC, dI) (zq_T cI cZ cD) [.ref (a 0), .int x] (wRo a cI cZ cD ki pl tu le ch ca (nI N) tk th hu od (nI M) ti be clk) (-61) sz := by
  refine va_MetW (cc := cL_test) (maxL := 4) (ret := (some .int)) (by decide) rfl ?_
  intro p e s m args below meth c s₁ B hml hv
  obtain ⟨rfl, ⟨hsz, hP, hK, hD0⟩, hH, hE⟩ := hv
  have hx := B.exec
  have hb := B.bytes
  have hr := B.returns
  have hts := atoms_spec (ws := wsL_test) B.pre
  have hown : s.vm.findClass RL = some m.cls := findClass_of_methodNamed B.named
  have hlocks := B.notSynchronized
  subst hsz
  have hD := hD0.self (sz := s.heap.size)
  generalize hAe : va_A (wRo a cI cZ cD ki pl tu le ch ca (nI N) tk th hu od (nI M) ti be clk) s.heap.size = A at hD hH ⊢
  have hA : ∀ q : Nat, s.heap.size ≤ q → A q := fun q h => by rw [← hAe]; exact Or.inr h
  have hS : va_S A s.heap s.heap [] := va_S.rf
  have hP : va_P (dC, dI) vwCl (wRo a cI cZ cD ki pl tu le ch ca (nI N) tk th hu od (nI M) ti be clk) s.heap := hP
  have hl := lv_entry ([.ref (a 0), .int x]) (n := 4) (Nat.le_of_ble_eq_true rfl)
  rw [lg_entry_eq]
  generalize (lg_sl ([.ref (a 0), .int x]) ++ List.replicate (4 - (lg_sl ([.ref (a 0), .int x])).length) Slot.unset).toArray = ls at hl ⊢
  have hl : lv_has ls 4 [(0, .ref (a 0)), (1, .int x)] := hl
  have htab := vx_table (x := yL_test) B (hts (.codeWith yL_test cL_test 4 (some .int) [(0, 6, 9, 24), (0, 6, 13, 16)]) List.mem_cons_self)
  refine lv_aload_n hx hb dL_test_0 rfl (lv_at hl 0 rfl) ?_
  refine lv_iload_n hx hb dL_test_1 rfl (lv_at hl 1 rfl) ?_
  refine zx_cVi (E := zx_I) (As := [.int x]) (rest := []) (wc := (wRo a cI cZ cD ki pl tu le ch ca (nI N) tk th hu od (nI M) ti be clk)) (wr := []) ⟨hx, hb, hml, hown, hts⟩ (c_X3_test_bad l hl0 dC dI a cI cZ cD ki pl tu le ch ca N tk th hu od M ti be clk hN hM x hx0 s.heap.size) (cwV 1 hts gL_test_X3_test rfl rfl rfl (by decide +kernel) ⟨(Nat.le_of_ble_eq_true rfl), (Nat.le_of_ble_eq_true rfl)⟩) hK hP hD hS hA hH hE [0, 1, 2, 3, 4, 5, 6, 7, 8, 9, 10, 11, 12, 13, 14] [] [0, 1, 2, 3, 4, 5, 6, 7, 8, 9, 10, 11, 12, 13, 14] rfl rfl rfl rfl (by decide) rfl rfl (ci := 3) rfl 0 rfl rfl hl.1 rfl (Nat.le_of_ble_eq_true rfl) dL_test_2 ⟨(Nat.le_of_ble_eq_true rfl), (Nat.le_of_ble_eq_true rfl)⟩ (fun H locs q9 ce hP hD hS hce hcv hcl hG => ?_)
  refine vx_catch (name := zx_I) hown [] ⟨0, 6, 9, 24⟩ [⟨0, 6, 13, 16⟩] htab (fun z hz => absurd hz List.not_mem_nil) (by decide) (by decide) (hts (.classLink RL 24 zx_I) (by decide +kernel)) (va_Nw.use rfl hE.1.1.1.2.2) hce hcv hcl ?_
  refine lv_astore_n (lv' := [(3, .ref q9), (0, .ref (a 0)), (1, .int x)]) hx hb dL_test_9 rfl hl (by decide) rfl (fun ls hl => ?_)
  refine lv_bipush (v := (-61)) hx hb dL_test_10 (by decide) ?_
  exact W.iret (v := (-61)) hx hb hr (zg_qi rfl hP hK hD hS hG) hS.2.2 dL_test_12

set_option maxHeartbeats 4000000 in
set_option maxRecDepth 100000 in
theorem c_L_mend_bad (l : Launch) (hl0 : l.stackTraces = false) (dC : Nat → ClassId) (dI : Nat → Nat → Nat) (a : Nat → Nat) (cI cZ cD : ClassId) (ki pl tu le : Nat → Int32) (ch ca : Nat → UInt64) (N : Nat) (tk th hu od : Nat → Int32) (M : Nat) (ti : Int32) (be : Nat → Int32) (clk : Int32) (hN : N ≤ 40) (hM : M ≤ 30) (x : Int32) (hx0 : in_b x 0 (nI N - 1) = false) (sz : Nat) : zl_M l yL_mend wsL_mend ({ frames := 8, cells := 1, slots := 6, locals := 133 } : Room) (dC, dI) (zq_T cI cZ cD) [.ref (a 0), .int x] (wRo a cI cZ cD ki pl tu le ch ca (nI N) tk th hu od (nI M) ti be clk) (-61) sz := by
  refine va_MetW (cc := cL_mend) (maxL := 4) (ret := (some .int)) (by decide) rfl ?_
  intro p e s m args below meth c s₁ B hml hv
  obtain ⟨rfl, ⟨hsz, hP, hK, hD0⟩, hH, hE⟩ := hv
  have hx := B.exec
  have hb := B.bytes
  have hr := B.returns
  have hts := atoms_spec (ws := wsL_mend) B.pre
  have hown : s.vm.findClass RL = some m.cls := findClass_of_methodNamed B.named
  have hlocks := B.notSynchronized
  subst hsz
  have hD := hD0.self (sz := s.heap.size)
  generalize hAe : va_A (wRo a cI cZ cD ki pl tu le ch ca (nI N) tk th hu od (nI M) ti be clk) s.heap.size = A at hD hH ⊢
  have hA : ∀ q : Nat, s.heap.size ≤ q → A q := fun q h => by rw [← hAe]; exact Or.inr h
  have hS : va_S A s.heap s.heap [] := va_S.rf
  have hP : va_P (dC, dI) vwCl (wRo a cI cZ cD ki pl tu le ch ca (nI N) tk th hu od (nI M) ti be clk) s.heap := hP
  have hl := lv_entry ([.ref (a 0), .int x]) (n := 4) (Nat.le_of_ble_eq_true rfl)
  rw [lg_entry_eq]
  generalize (lg_sl ([.ref (a 0), .int x]) ++ List.replicate (4 - (lg_sl ([.ref (a 0), .int x])).length) Slot.unset).toArray = ls at hl ⊢
  have hl : lv_has ls 4 [(0, .ref (a 0)), (1, .int x)] := hl
  have htab := vx_table (x := yL_mend) B (hts (.codeWith yL_mend cL_mend 4 (some .int) [(0, 6, 9, 24), (0, 6, 13, 16)]) List.mem_cons_self)
  refine lv_aload_n hx hb dL_mend_0 rfl (lv_at hl 0 rfl) ?_
  refine lv_iload_n hx hb dL_mend_1 rfl (lv_at hl 1 rfl) ?_
  refine zx_cVi (E := zx_I) (As := [.int x]) (rest := []) (wc := (wRo a cI cZ cD ki pl tu le ch ca (nI N) tk th hu od (nI M) ti be clk)) (wr := []) ⟨hx, hb, hml, hown, hts⟩ (c_X3_mend_bad l hl0 dC dI a cI cZ cD ki pl tu le ch ca N tk th hu od M ti be clk hN hM x hx0 s.heap.size) (cwV 1 hts gL_mend_X3_mend rfl rfl rfl (by decide +kernel) ⟨(Nat.le_of_ble_eq_true rfl), (Nat.le_of_ble_eq_true rfl)⟩) hK hP hD hS hA hH hE [0, 1, 2, 3, 4, 5, 6, 7, 8, 9, 10, 11, 12, 13, 14] [] [0, 1, 2, 3, 4, 5, 6, 7, 8, 9, 10, 11, 12, 13, 14] rfl rfl rfl rfl (by decide) rfl rfl (ci := 3) rfl 0 rfl rfl hl.1 rfl (Nat.le_of_ble_eq_true rfl) dL_mend_2 ⟨(Nat.le_of_ble_eq_true rfl), (Nat.le_of_ble_eq_true rfl)⟩ (fun H locs q9 ce hP hD hS hce hcv hcl hG => ?_)
  refine vx_catch (name := zx_I) hown [] ⟨0, 6, 9, 24⟩ [⟨0, 6, 13, 16⟩] htab (fun z hz => absurd hz List.not_mem_nil) (by decide) (by decide) (hts (.classLink RL 24 zx_I) (by decide +kernel)) (va_Nw.use rfl hE.1.1.1.2.2) hce hcv hcl ?_
  refine lv_astore_n (lv' := [(3, .ref q9), (0, .ref (a 0)), (1, .int x)]) hx hb dL_mend_9 rfl hl (by decide) rfl (fun ls hl => ?_)
  refine lv_bipush (v := (-61)) hx hb dL_mend_10 (by decide) ?_
  exact W.iret (v := (-61)) hx hb hr (zg_qi rfl hP hK hD hS hG) hS.2.2 dL_mend_12

set_option maxHeartbeats 4000000 in
set_option maxRecDepth 100000 in
theorem c_L_ready_bad (l : Launch) (hl0 : l.stackTraces = false) (dC : Nat → ClassId) (dI : Nat → Nat → Nat) (a : Nat → Nat) (cI cZ cD : ClassId) (ki pl tu le : Nat → Int32) (ch ca : Nat → UInt64) (N : Nat) (tk th hu od : Nat → Int32) (M : Nat) (ti : Int32) (be : Nat → Int32) (clk : Int32) (hN : N ≤ 40) (hM : M ≤ 30) (k : Int32) (hk : in_b k 0 2 = false) (sz : Nat) : zl_M l yL_ready wsL_ready ({ frames := 8, cells := 1, slots := 6, locals := 131 } : Room) (dC, dI) (zq_T cI cZ cD) [.ref (a 0), .int k] (wRo a cI cZ cD ki pl tu le ch ca (nI N) tk th hu od (nI M) ti be clk) (-62) sz := by
  refine va_MetW (cc := cL_ready) (maxL := 4) (ret := (some .int)) (by decide) rfl ?_
  intro p e s m args below meth c s₁ B hml hv
  obtain ⟨rfl, ⟨hsz, hP, hK, hD0⟩, hH, hE⟩ := hv
  have hx := B.exec
  have hb := B.bytes
  have hr := B.returns
  have hts := atoms_spec (ws := wsL_ready) B.pre
  have hown : s.vm.findClass RL = some m.cls := findClass_of_methodNamed B.named
  have hlocks := B.notSynchronized
  subst hsz
  have hD := hD0.self (sz := s.heap.size)
  generalize hAe : va_A (wRo a cI cZ cD ki pl tu le ch ca (nI N) tk th hu od (nI M) ti be clk) s.heap.size = A at hD hH ⊢
  have hA : ∀ q : Nat, s.heap.size ≤ q → A q := fun q h => by rw [← hAe]; exact Or.inr h
  have hS : va_S A s.heap s.heap [] := va_S.rf
  have hP : va_P (dC, dI) vwCl (wRo a cI cZ cD ki pl tu le ch ca (nI N) tk th hu od (nI M) ti be clk) s.heap := hP
  have hl := lv_entry ([.ref (a 0), .int k]) (n := 4) (Nat.le_of_ble_eq_true rfl)
  rw [lg_entry_eq]
  generalize (lg_sl ([.ref (a 0), .int k]) ++ List.replicate (4 - (lg_sl ([.ref (a 0), .int k])).length) Slot.unset).toArray = ls at hl ⊢
  have hl : lv_has ls 4 [(0, .ref (a 0)), (1, .int k)] := hl
  have htab := vx_table (x := yL_ready) B (hts (.codeWith yL_ready cL_ready 4 (some .int) [(0, 6, 9, 14)]) List.mem_cons_self)
  refine lv_aload_n hx hb dL_ready_0 rfl (lv_at hl 0 rfl) ?_
  refine lv_iload_n hx hb dL_ready_1 rfl (lv_at hl 1 rfl) ?_
  refine zx_cVi (E := zx_A) (As := [.int k]) (rest := []) (wc := (wRo a cI cZ cD ki pl tu le ch ca (nI N) tk th hu od (nI M) ti be clk)) (wr := []) ⟨hx, hb, hml, hown, hts⟩ (c_X3_ready_bad l hl0 dC dI a cI cZ cD ki pl tu le ch ca N tk th hu od M ti be clk hN hM k hk s.heap.size) (cwV 1 hts gL_ready_X3_ready rfl rfl rfl (by decide +kernel) ⟨(Nat.le_of_ble_eq_true rfl), (Nat.le_of_ble_eq_true rfl)⟩) hK hP hD hS hA hH hE [0, 1, 2, 3, 4, 5, 6, 7, 8, 9, 10, 11, 12, 13, 14] [] [0, 1, 2, 3, 4, 5, 6, 7, 8, 9, 10, 11, 12, 13, 14] rfl rfl rfl rfl (by decide) rfl rfl (ci := 3) rfl 0 rfl rfl hl.1 rfl (Nat.le_of_ble_eq_true rfl) dL_ready_2 ⟨(Nat.le_of_ble_eq_true rfl), (Nat.le_of_ble_eq_true rfl)⟩ (fun H locs q9 ce hP hD hS hce hcv hcl hG => ?_)
  refine vx_catch (name := zx_A) hown [] ⟨0, 6, 9, 14⟩ [] htab (fun z hz => absurd hz List.not_mem_nil) (by decide) (by decide) (hts (.classLink RL 14 zx_A) (by decide +kernel)) (va_Nw.use rfl hE.1.1.1.1) hce hcv hcl ?_
  refine lv_astore_n (lv' := [(3, .ref q9), (0, .ref (a 0)), (1, .int k)]) hx hb dL_ready_9 rfl hl (by decide) rfl (fun ls hl => ?_)
  refine lv_bipush (v := (-62)) hx hb dL_ready_10 (by decide) ?_
  exact W.iret (v := (-62)) hx hb hr (zg_qi rfl hP hK hD hS hG) hS.2.2 dL_ready_12

set_option maxHeartbeats 4000000 in
set_option maxRecDepth 100000 in
theorem c_L_placeOf_bad (l : Launch) (hl0 : l.stackTraces = false) (dC : Nat → ClassId) (dI : Nat → Nat → Nat) (a : Nat → Nat) (cI cZ cD : ClassId) (ki pl tu le : Nat → Int32) (ch ca : Nat → UInt64) (N : Nat) (tk th hu od : Nat → Int32) (M : Nat) (ti : Int32) (be : Nat → Int32) (clk : Int32) (hN : N ≤ 40) (hM : M ≤ 30) (x : Int32) (hx0 : in_b x 0 (nI N - 1) = false) (sz : Nat) : zl_M l yL_placeOf wsL_placeOf ({ frames := 8, cells := 1, slots := 6, locals := 132 } : Room) (dC, dI) (zq_T cI cZ cD) [.ref (a 0), .int x] (wRo a cI cZ cD ki pl tu le ch ca (nI N) tk th hu od (nI M) ti be clk) (-61) sz := by
  refine va_MetW (cc := cL_placeOf) (maxL := 4) (ret := (some .int)) (by decide) rfl ?_
  intro p e s m args below meth c s₁ B hml hv
  obtain ⟨rfl, ⟨hsz, hP, hK, hD0⟩, hH, hE⟩ := hv
  have hx := B.exec
  have hb := B.bytes
  have hr := B.returns
  have hts := atoms_spec (ws := wsL_placeOf) B.pre
  have hown : s.vm.findClass RL = some m.cls := findClass_of_methodNamed B.named
  have hlocks := B.notSynchronized
  subst hsz
  have hD := hD0.self (sz := s.heap.size)
  generalize hAe : va_A (wRo a cI cZ cD ki pl tu le ch ca (nI N) tk th hu od (nI M) ti be clk) s.heap.size = A at hD hH ⊢
  have hA : ∀ q : Nat, s.heap.size ≤ q → A q := fun q h => by rw [← hAe]; exact Or.inr h
  have hS : va_S A s.heap s.heap [] := va_S.rf
  have hP : va_P (dC, dI) vwCl (wRo a cI cZ cD ki pl tu le ch ca (nI N) tk th hu od (nI M) ti be clk) s.heap := hP
  have hl := lv_entry ([.ref (a 0), .int x]) (n := 4) (Nat.le_of_ble_eq_true rfl)
  rw [lg_entry_eq]
  generalize (lg_sl ([.ref (a 0), .int x]) ++ List.replicate (4 - (lg_sl ([.ref (a 0), .int x])).length) Slot.unset).toArray = ls at hl ⊢
  have hl : lv_has ls 4 [(0, .ref (a 0)), (1, .int x)] := hl
  have htab := vx_table (x := yL_placeOf) B (hts (.codeWith yL_placeOf cL_placeOf 4 (some .int) [(0, 6, 9, 24)]) List.mem_cons_self)
  refine lv_aload_n hx hb dL_placeOf_0 rfl (lv_at hl 0 rfl) ?_
  refine lv_iload_n hx hb dL_placeOf_1 rfl (lv_at hl 1 rfl) ?_
  refine zx_cVi (E := zx_I) (As := [.int x]) (rest := []) (wc := (wRo a cI cZ cD ki pl tu le ch ca (nI N) tk th hu od (nI M) ti be clk)) (wr := []) ⟨hx, hb, hml, hown, hts⟩ (c_X3_placeOf_bad l hl0 dC dI a cI cZ cD ki pl tu le ch ca N tk th hu od M ti be clk hN hM x hx0 s.heap.size) (cwV 1 hts gL_placeOf_X3_placeOf rfl rfl rfl (by decide +kernel) ⟨(Nat.le_of_ble_eq_true rfl), (Nat.le_of_ble_eq_true rfl)⟩) hK hP hD hS hA hH hE [0, 1, 2, 3, 4, 5, 6, 7, 8, 9, 10, 11, 12, 13, 14] [] [0, 1, 2, 3, 4, 5, 6, 7, 8, 9, 10, 11, 12, 13, 14] rfl rfl rfl rfl (by decide) rfl rfl (ci := 3) rfl 0 rfl rfl hl.1 rfl (Nat.le_of_ble_eq_true rfl) dL_placeOf_2 ⟨(Nat.le_of_ble_eq_true rfl), (Nat.le_of_ble_eq_true rfl)⟩ (fun H locs q9 ce hP hD hS hce hcv hcl hG => ?_)
  refine vx_catch (name := zx_I) hown [] ⟨0, 6, 9, 24⟩ [] htab (fun z hz => absurd hz List.not_mem_nil) (by decide) (by decide) (hts (.classLink RL 24 zx_I) (by decide +kernel)) (va_Nw.use rfl hE.1.1.1.2.2) hce hcv hcl ?_
  refine lv_astore_n (lv' := [(3, .ref q9), (0, .ref (a 0)), (1, .int x)]) hx hb dL_placeOf_9 rfl hl (by decide) rfl (fun ls hl => ?_)
  refine lv_bipush (v := (-61)) hx hb dL_placeOf_10 (by decide) ?_
  exact W.iret (v := (-61)) hx hb hr (zg_qi rfl hP hK hD hS hG) hS.2.2 dL_placeOf_12

set_option maxHeartbeats 4000000 in
set_option maxRecDepth 100000 in
theorem c_L_lampOf_bad (l : Launch) (hl0 : l.stackTraces = false) (dC : Nat → ClassId) (dI : Nat → Nat → Nat) (a : Nat → Nat) (cI cZ cD : ClassId) (ki pl tu le : Nat → Int32) (ch ca : Nat → UInt64) (N : Nat) (tk th hu od : Nat → Int32) (M : Nat) (ti : Int32) (be : Nat → Int32) (clk : Int32) (hN : N ≤ 40) (hM : M ≤ 30) (x : Int32) (hx0 : in_b x 0 (nI M - 1) = false) (sz : Nat) : zl_M l yL_lampOf wsL_lampOf ({ frames := 8, cells := 1, slots := 6, locals := 132 } : Room) (dC, dI) (zq_T cI cZ cD) [.ref (a 0), .int x] (wRo a cI cZ cD ki pl tu le ch ca (nI N) tk th hu od (nI M) ti be clk) (-61) sz := by
  refine va_MetW (cc := cL_lampOf) (maxL := 4) (ret := (some .int)) (by decide) rfl ?_
  intro p e s m args below meth c s₁ B hml hv
  obtain ⟨rfl, ⟨hsz, hP, hK, hD0⟩, hH, hE⟩ := hv
  have hx := B.exec
  have hb := B.bytes
  have hr := B.returns
  have hts := atoms_spec (ws := wsL_lampOf) B.pre
  have hown : s.vm.findClass RL = some m.cls := findClass_of_methodNamed B.named
  have hlocks := B.notSynchronized
  subst hsz
  have hD := hD0.self (sz := s.heap.size)
  generalize hAe : va_A (wRo a cI cZ cD ki pl tu le ch ca (nI N) tk th hu od (nI M) ti be clk) s.heap.size = A at hD hH ⊢
  have hA : ∀ q : Nat, s.heap.size ≤ q → A q := fun q h => by rw [← hAe]; exact Or.inr h
  have hS : va_S A s.heap s.heap [] := va_S.rf
  have hP : va_P (dC, dI) vwCl (wRo a cI cZ cD ki pl tu le ch ca (nI N) tk th hu od (nI M) ti be clk) s.heap := hP
  have hl := lv_entry ([.ref (a 0), .int x]) (n := 4) (Nat.le_of_ble_eq_true rfl)
  rw [lg_entry_eq]
  generalize (lg_sl ([.ref (a 0), .int x]) ++ List.replicate (4 - (lg_sl ([.ref (a 0), .int x])).length) Slot.unset).toArray = ls at hl ⊢
  have hl : lv_has ls 4 [(0, .ref (a 0)), (1, .int x)] := hl
  have htab := vx_table (x := yL_lampOf) B (hts (.codeWith yL_lampOf cL_lampOf 4 (some .int) [(0, 6, 9, 24)]) List.mem_cons_self)
  refine lv_aload_n hx hb dL_lampOf_0 rfl (lv_at hl 0 rfl) ?_
  refine lv_iload_n hx hb dL_lampOf_1 rfl (lv_at hl 1 rfl) ?_
  refine zx_cVi (E := zx_I) (As := [.int x]) (rest := []) (wc := (wRo a cI cZ cD ki pl tu le ch ca (nI N) tk th hu od (nI M) ti be clk)) (wr := []) ⟨hx, hb, hml, hown, hts⟩ (c_X3_lampOf_bad l hl0 dC dI a cI cZ cD ki pl tu le ch ca N tk th hu od M ti be clk hN hM x hx0 s.heap.size) (cwV 1 hts gL_lampOf_X3_lampOf rfl rfl rfl (by decide +kernel) ⟨(Nat.le_of_ble_eq_true rfl), (Nat.le_of_ble_eq_true rfl)⟩) hK hP hD hS hA hH hE [0, 1, 2, 3, 4, 5, 6, 7, 8, 9, 10, 11, 12, 13, 14] [] [0, 1, 2, 3, 4, 5, 6, 7, 8, 9, 10, 11, 12, 13, 14] rfl rfl rfl rfl (by decide) rfl rfl (ci := 3) rfl 0 rfl rfl hl.1 rfl (Nat.le_of_ble_eq_true rfl) dL_lampOf_2 ⟨(Nat.le_of_ble_eq_true rfl), (Nat.le_of_ble_eq_true rfl)⟩ (fun H locs q9 ce hP hD hS hce hcv hcl hG => ?_)
  refine vx_catch (name := zx_I) hown [] ⟨0, 6, 9, 24⟩ [] htab (fun z hz => absurd hz List.not_mem_nil) (by decide) (by decide) (hts (.classLink RL 24 zx_I) (by decide +kernel)) (va_Nw.use rfl hE.1.1.1.2.2) hce hcv hcl ?_
  refine lv_astore_n (lv' := [(3, .ref q9), (0, .ref (a 0)), (1, .int x)]) hx hb dL_lampOf_9 rfl hl (by decide) rfl (fun ls hl => ?_)
  refine lv_bipush (v := (-61)) hx hb dL_lampOf_10 (by decide) ?_
  exact W.iret (v := (-61)) hx hb hr (zg_qi rfl hP hK hD hS hG) hS.2.2 dL_lampOf_12
end
section
set_option maxHeartbeats 8000000 in
set_option maxRecDepth 100000 in
theorem c_L_isRead (l : Launch) (hl0 : l.stackTraces = false) (dC : Nat → ClassId) (dI : Nat → Nat → Nat) (a : Nat → Nat) (cI cZ cD : ClassId) (ki pl tu le : Nat → Int32) (ch ca : Nat → UInt64) (N : Nat) (tk th hu od : Nat → Int32) (M : Nat) (ti : Int32) (be : Nat → Int32) (clk : Int32) (hN : N ≤ 40) (hM : M ≤ 30) (v : Nat → Nat) (lL : Nat → Int32) (lC lF : Nat → UInt64) (lW lM lB lH lR lD lG : Nat → Int32) (hg0 : lG 0 = nI N) (hg1 : lG 1 = nI M) (hth : ∀ i, i < M → th i = -1) (hm0 : ∀ i, i < M → lM i = 0) (hbe : ∀ i, be i = 0) (sz : Nat) : zg_M l yL_isRead wsL_isRead ({ frames := 9, cells := 1, slots := 6, locals := 155 } : Room) (dC, dI) (zq_T cI cZ cD) [.ref (a 0), .ref (v 5), .ref (v 6), .ref (v 7), .ref (v 8), .ref (v 9), .ref (v 10)] (wLw a v cI cZ cD ki pl tu le ch ca (nI N) tk th hu od (nI M) ti be clk lL lC lF lW lM lB lH lR lD lG) 1 (wLw a v cI cZ cD ki pl tu le ch ca (nI N) tk th hu od (nI M) ti be clk lL lC lF lW lM lB lH lR lD lG) sz 1 6 := by
  refine Met.ofW (cc := cL_isRead) (maxL := 14) (ret := (some .boolean)) (by decide) rfl ?_
  intro p e s m args below meth c s₁ B hml hv
  obtain ⟨rfl, ⟨hsz, hP, hK, hD0⟩, hH, hE⟩ := hv
  have hx := B.exec
  have hb := B.bytes
  have hr := B.returns
  have hts := atoms_spec (ws := wsL_isRead) B.pre
  have hown : s.vm.findClass RL = some m.cls := findClass_of_methodNamed B.named
  have hlocks := B.notSynchronized
  subst hsz
  have hD := hD0.self (sz := s.heap.size)
  generalize hAe : va_A (wLw a v cI cZ cD ki pl tu le ch ca (nI N) tk th hu od (nI M) ti be clk lL lC lF lW lM lB lH lR lD lG) s.heap.size = A at hD hH ⊢
  have hA : ∀ q : Nat, s.heap.size ≤ q → A q := fun q h => by rw [← hAe]; exact Or.inr h
  have hS : va_S A s.heap s.heap [] := va_S.rf
  have hP : va_P (dC, dI) vwCl (wLw a v cI cZ cD ki pl tu le ch ca (nI N) tk th hu od (nI M) ti be clk lL lC lF lW lM lB lH lR lD lG) s.heap := hP
  have hl := lv_entry ([.ref (a 0), .ref (v 5), .ref (v 6), .ref (v 7), .ref (v 8), .ref (v 9), .ref (v 10)]) (n := 14) (Nat.le_of_ble_eq_true rfl)
  rw [lg_entry_eq]
  generalize (lg_sl ([.ref (a 0), .ref (v 5), .ref (v 6), .ref (v 7), .ref (v 8), .ref (v 9), .ref (v 10)]) ++ List.replicate (14 - (lg_sl ([.ref (a 0), .ref (v 5), .ref (v 6), .ref (v 7), .ref (v 8), .ref (v 9), .ref (v 10)])).length) Slot.unset).toArray = ls at hl ⊢
  have hl : lv_has ls 14 [(0, .ref (a 0)), (1, .ref (v 5)), (2, .ref (v 6)), (3, .ref (v 7)), (4, .ref (v 8)), (5, .ref (v 9)), (6, .ref (v 10))] := hl
  have hcnt : nI (zf_cnt (ta_p th) M) = 0 := by rw [zw_cnt0 M (fun j hj => by simp [ta_p, hth j hj])]; rfl
  have hbd : ∀ x, zf_find (ta_hit th od M x) M 0 = -1 := fun x => zw_find M (fun j hj => by simp [ta_hit, hth j hj])
  have hal : ∀ x, zf_find (al_hit be x) 60 0 = -1 := fun x => zw_find 60 (fun j _ => by simp [al_hit, hbe j])
  have hlo : ∀ i, i < M → (if th i = -1 then -1 else clk - hu i) = (-1 : Int32) := fun i hi => if_pos (hth i hi)
  refine lv_iconst (v := 0) hx hb dL_isRead_0 (by decide) ?_
  refine lv_istore (lv' := [(7, .int 0), (0, .ref (a 0)), (1, .ref (v 5)), (2, .ref (v 6)), (3, .ref (v 7)), (4, .ref (v 8)), (5, .ref (v 9)), (6, .ref (v 10))]) hx hb dL_isRead_1 hl (by decide) rfl (fun ls hl => ?_)
  refine lv_iconst (v := 0) hx hb dL_isRead_3 (by decide) ?_
  refine lv_istore (lv' := [(8, .int 0), (7, .int 0), (0, .ref (a 0)), (1, .ref (v 5)), (2, .ref (v 6)), (3, .ref (v 7)), (4, .ref (v 8)), (5, .ref (v 9)), (6, .ref (v 10))]) hx hb dL_isRead_4 hl (by decide) rfl (fun ls hl => ?_)
  refine lv_iconst (v := 0) hx hb dL_isRead_6 (by decide) ?_
  refine lv_istore (lv' := [(9, .int 0), (8, .int 0), (7, .int 0), (0, .ref (a 0)), (1, .ref (v 5)), (2, .ref (v 6)), (3, .ref (v 7)), (4, .ref (v 8)), (5, .ref (v 9)), (6, .ref (v 10))]) hx hb dL_isRead_7 hl (by decide) rfl (fun ls hl => ?_)
  refine zq_loop 9 M (fun i H locs ls => va_P (dC, dI) vwCl (wLw a v cI cZ cD ki pl tu le ch ca (nI N) tk th hu od (nI M) ti be clk lL lC lF lW lM lB lH lR lD lG) H ∧ va_D A (wLw a v cI cZ cD ki pl tu le ch ca (nI N) tk th hu od (nI M) ti be clk lL lC lF lW lM lB lH lR lD lG) ∧ va_S A s.heap H locs ∧ lv_has ls 14 [(9, .int (nI i)), (7, .int 0), (8, .int 0), (0, .ref (a 0)), (1, .ref (v 5)), (2, .ref (v 6)), (3, .ref (v 7)), (4, .ref (v 8)), (5, .ref (v 9)), (6, .ref (v 10))]) ?_ 0 (by omega) _ _ _ ⟨hP, hD, hS, lv_sub hl [0, 2, 1, 3, 4, 5, 6, 7, 8, 9] rfl⟩
  intro i hi_i ih_i H locs ls hh
  obtain ⟨hP, hD, hS, hl⟩ := hh
  refine lv_iload hx hb dL_isRead_9 (lv_at hl 0 rfl) ?_
  refine lv_aload hx hb dL_isRead_11 (lv_at hl 9 rfl) ?_
  refine lv_iconst (v := 1) hx hb dL_isRead_13 (by decide) ?_
  refine zq_iald hx hb hK hP 24 0 rfl rfl (j := 1) (by decide) (by decide) dL_isRead_14 ?_
  rw [hg1]
  refine lv_icmp_ge (tgt := 491) hx hb dL_isRead_15 (by decide) (fun c_0 => ?_) (fun c_0 => ?_)
  · have d_0 := (nI_leI (a := M) (b := i) (by omega) (by omega)).mp c_0
    have ei_i : i = M := by omega
    refine lv_aload_n hx hb dL_isRead_491 rfl (lv_at hl 3 rfl) ?_
    refine zq_cVi (As := []) (rest := []) (wc := (wRo a cI cZ cD ki pl tu le ch ca (nI N) tk th hu od (nI M) ti be clk)) (w1 := (wRo a cI cZ cD ki pl tu le ch ca (nI N) tk th hu od (nI M) ti be clk)) (wr := (wAr v cI cD lL lC lF lW lM lB lH lR lD lG)) (ws' := (wLw a v cI cZ cD ki pl tu le ch ca (nI N) tk th hu od (nI M) ti be clk lL lC lF lW lM lB lH lR lD lG)) ⟨hx, hb, hml, hown, hts⟩ (c_X3_below l dC dI a cI cZ cD ki pl tu le ch ca N tk th hu od M ti be clk (by omega) (by omega) H.size) (cwV 0 hts gL_isRead_X3_below rfl rfl rfl (by decide +kernel) ⟨Nat.le_of_ble_eq_true rfl, Nat.le_of_ble_eq_true rfl⟩) hK hP hD hS hA [0, 1, 2, 3, 4, 5, 6, 7, 8, 9, 10, 11, 12, 13, 14] [15, 16, 17, 18, 19, 20, 21, 22, 23, 24] [10, 11, 12, 13, 14, 15, 16, 17, 18, 19, 20, 21, 22, 23, 24, 0, 1, 2, 3, 4, 5, 6, 7, 8, 9] rfl rfl rfl rfl (by decide) rfl rfl (ci := 3) rfl 0 rfl rfl hl.1 rfl (Nat.le_of_ble_eq_true rfl) dL_isRead_492 ⟨Nat.le_of_ble_eq_true rfl, Nat.le_of_ble_eq_true rfl⟩ (fun H locs hP hD hS => ?_)
    rw [hcnt]
    refine lv_iload hx hb dL_isRead_495 (lv_at hl 1 rfl) ?_
    refine lv_icmp_ne (tgt := 555) hx hb dL_isRead_497 (by decide) (fun c => absurd c (by decide)) (fun _ => ?_)
    refine lv_aload_n hx hb dL_isRead_500 rfl (lv_at hl 3 rfl) ?_
    refine lv_iload hx hb dL_isRead_501 (lv_at hl 1 rfl) ?_
    refine zq_cVi (As := [.int 0]) (rest := []) (wc := (wRo a cI cZ cD ki pl tu le ch ca (nI N) tk th hu od (nI M) ti be clk)) (w1 := (wRo a cI cZ cD ki pl tu le ch ca (nI N) tk th hu od (nI M) ti be clk)) (wr := (wAr v cI cD lL lC lF lW lM lB lH lR lD lG)) (ws' := (wLw a v cI cZ cD ki pl tu le ch ca (nI N) tk th hu od (nI M) ti be clk lL lC lF lW lM lB lH lR lD lG)) ⟨hx, hb, hml, hown, hts⟩ (c_X3_board l dC dI a cI cZ cD ki pl tu le ch ca N tk th hu od M ti be clk (by omega) (by omega) 0 H.size) (cwV 1 hts gL_isRead_X3_board rfl rfl rfl (by decide +kernel) ⟨Nat.le_of_ble_eq_true rfl, Nat.le_of_ble_eq_true rfl⟩) hK hP hD hS hA [0, 1, 2, 3, 4, 5, 6, 7, 8, 9, 10, 11, 12, 13, 14] [15, 16, 17, 18, 19, 20, 21, 22, 23, 24] [10, 11, 12, 13, 14, 15, 16, 17, 18, 19, 20, 21, 22, 23, 24, 0, 1, 2, 3, 4, 5, 6, 7, 8, 9] rfl rfl rfl rfl (by decide) rfl rfl (ci := 3) rfl 0 rfl rfl hl.1 rfl (Nat.le_of_ble_eq_true rfl) dL_isRead_503 ⟨Nat.le_of_ble_eq_true rfl, Nat.le_of_ble_eq_true rfl⟩ (fun H locs hP hD hS => ?_)
    rw [hbd]
    refine lv_iconst (v := (-1)) hx hb dL_isRead_506 (by decide) ?_
    refine lv_icmp_ne (tgt := 555) hx hb dL_isRead_507 (by decide) (fun c => absurd c (by decide)) (fun _ => ?_)
    refine lv_aload_n hx hb dL_isRead_510 rfl (lv_at hl 3 rfl) ?_
    refine lv_iconst (v := (-1)) hx hb dL_isRead_511 (by decide) ?_
    refine zq_cVi (As := [.int (-1)]) (rest := []) (wc := (wRo a cI cZ cD ki pl tu le ch ca (nI N) tk th hu od (nI M) ti be clk)) (w1 := (wRo a cI cZ cD ki pl tu le ch ca (nI N) tk th hu od (nI M) ti be clk)) (wr := (wAr v cI cD lL lC lF lW lM lB lH lR lD lG)) (ws' := (wLw a v cI cZ cD ki pl tu le ch ca (nI N) tk th hu od (nI M) ti be clk lL lC lF lW lM lB lH lR lD lG)) ⟨hx, hb, hml, hown, hts⟩ (c_X3_board l dC dI a cI cZ cD ki pl tu le ch ca N tk th hu od M ti be clk (by omega) (by omega) (-1) H.size) (cwV 1 hts gL_isRead_X3_board rfl rfl rfl (by decide +kernel) ⟨Nat.le_of_ble_eq_true rfl, Nat.le_of_ble_eq_true rfl⟩) hK hP hD hS hA [0, 1, 2, 3, 4, 5, 6, 7, 8, 9, 10, 11, 12, 13, 14] [15, 16, 17, 18, 19, 20, 21, 22, 23, 24] [10, 11, 12, 13, 14, 15, 16, 17, 18, 19, 20, 21, 22, 23, 24, 0, 1, 2, 3, 4, 5, 6, 7, 8, 9] rfl rfl rfl rfl (by decide) rfl rfl (ci := 3) rfl 0 rfl rfl hl.1 rfl (Nat.le_of_ble_eq_true rfl) dL_isRead_512 ⟨Nat.le_of_ble_eq_true rfl, Nat.le_of_ble_eq_true rfl⟩ (fun H locs hP hD hS => ?_)
    rw [hbd]
    refine lv_iconst (v := (-1)) hx hb dL_isRead_515 (by decide) ?_
    refine lv_icmp_ne (tgt := 555) hx hb dL_isRead_516 (by decide) (fun c => absurd c (by decide)) (fun _ => ?_)
    refine lv_aload_n hx hb dL_isRead_519 rfl (lv_at hl 3 rfl) ?_
    refine lv_iload hx hb dL_isRead_520 (lv_at hl 2 rfl) ?_
    refine zq_cVi (As := [.int 0]) (rest := []) (wc := (wRo a cI cZ cD ki pl tu le ch ca (nI N) tk th hu od (nI M) ti be clk)) (w1 := (wRo a cI cZ cD ki pl tu le ch ca (nI N) tk th hu od (nI M) ti be clk)) (wr := (wAr v cI cD lL lC lF lW lM lB lH lR lD lG)) (ws' := (wLw a v cI cZ cD ki pl tu le ch ca (nI N) tk th hu od (nI M) ti be clk lL lC lF lW lM lB lH lR lD lG)) ⟨hx, hb, hml, hown, hts⟩ (c_X3_alarm l dC dI a cI cZ cD ki pl tu le ch ca N tk th hu od M ti be clk (by omega) (by omega) 0 H.size) (cwV 1 hts gL_isRead_X3_alarm rfl rfl rfl (by decide +kernel) ⟨Nat.le_of_ble_eq_true rfl, Nat.le_of_ble_eq_true rfl⟩) hK hP hD hS hA [0, 1, 2, 3, 4, 5, 6, 7, 8, 9, 10, 11, 12, 13, 14] [15, 16, 17, 18, 19, 20, 21, 22, 23, 24] [10, 11, 12, 13, 14, 15, 16, 17, 18, 19, 20, 21, 22, 23, 24, 0, 1, 2, 3, 4, 5, 6, 7, 8, 9] rfl rfl rfl rfl (by decide) rfl rfl (ci := 3) rfl 0 rfl rfl hl.1 rfl (Nat.le_of_ble_eq_true rfl) dL_isRead_522 ⟨Nat.le_of_ble_eq_true rfl, Nat.le_of_ble_eq_true rfl⟩ (fun H locs hP hD hS => ?_)
    rw [hal]
    refine lv_iconst (v := (-1)) hx hb dL_isRead_525 (by decide) ?_
    refine lv_icmp_ne (tgt := 555) hx hb dL_isRead_526 (by decide) (fun c => absurd c (by decide)) (fun _ => ?_)
    refine lv_aload_n hx hb dL_isRead_529 rfl (lv_at hl 3 rfl) ?_
    refine lv_iconst (v := (-1)) hx hb dL_isRead_530 (by decide) ?_
    refine zq_cVi (As := [.int (-1)]) (rest := []) (wc := (wRo a cI cZ cD ki pl tu le ch ca (nI N) tk th hu od (nI M) ti be clk)) (w1 := (wRo a cI cZ cD ki pl tu le ch ca (nI N) tk th hu od (nI M) ti be clk)) (wr := (wAr v cI cD lL lC lF lW lM lB lH lR lD lG)) (ws' := (wLw a v cI cZ cD ki pl tu le ch ca (nI N) tk th hu od (nI M) ti be clk lL lC lF lW lM lB lH lR lD lG)) ⟨hx, hb, hml, hown, hts⟩ (c_X3_alarm l dC dI a cI cZ cD ki pl tu le ch ca N tk th hu od M ti be clk (by omega) (by omega) (-1) H.size) (cwV 1 hts gL_isRead_X3_alarm rfl rfl rfl (by decide +kernel) ⟨Nat.le_of_ble_eq_true rfl, Nat.le_of_ble_eq_true rfl⟩) hK hP hD hS hA [0, 1, 2, 3, 4, 5, 6, 7, 8, 9, 10, 11, 12, 13, 14] [15, 16, 17, 18, 19, 20, 21, 22, 23, 24] [10, 11, 12, 13, 14, 15, 16, 17, 18, 19, 20, 21, 22, 23, 24, 0, 1, 2, 3, 4, 5, 6, 7, 8, 9] rfl rfl rfl rfl (by decide) rfl rfl (ci := 3) rfl 0 rfl rfl hl.1 rfl (Nat.le_of_ble_eq_true rfl) dL_isRead_531 ⟨Nat.le_of_ble_eq_true rfl, Nat.le_of_ble_eq_true rfl⟩ (fun H locs hP hD hS => ?_)
    rw [hal]
    refine lv_iconst (v := (-1)) hx hb dL_isRead_534 (by decide) ?_
    refine lv_icmp_ne (tgt := 555) hx hb dL_isRead_535 (by decide) (fun c => absurd c (by decide)) (fun _ => ?_)
    refine lv_aload_n hx hb dL_isRead_538 rfl (lv_at hl 3 rfl) ?_
    refine lv_aload hx hb dL_isRead_539 (lv_at hl 9 rfl) ?_
    refine lv_iconst (v := 1) hx hb dL_isRead_541 (by decide) ?_
    refine zq_iald hx hb hK hP 24 0 rfl rfl (j := 1) (by decide) (by decide) dL_isRead_542 ?_
    rw [hg1]
    refine zl_cWi (As := [.ref (a 0), .int (nI M)]) (rest := []) (wc := (wRo a cI cZ cD ki pl tu le ch ca (nI N) tk th hu od (nI M) ti be clk)) (wr := (wAr v cI cD lL lC lF lW lM lB lH lR lD lG)) ⟨hx, hb, hml, hown, hts⟩ (c_L_lampOf_bad l hl0 dC dI a cI cZ cD ki pl tu le ch ca N tk th hu od M ti be clk (by omega) (by omega) (nI M) (zw_top (by omega)) H.size) (vx_cwSW 2 hts gL_isRead_L_lampOf rfl rfl rfl (by decide +kernel) ⟨Nat.le_of_ble_eq_true rfl, Nat.le_of_ble_eq_true rfl⟩) hK hP hD hS hA (hH.kept hS.2.1) hE [0, 1, 2, 3, 4, 5, 6, 7, 8, 9, 10, 11, 12, 13, 14] [15, 16, 17, 18, 19, 20, 21, 22, 23, 24] [10, 11, 12, 13, 14, 15, 16, 17, 18, 19, 20, 21, 22, 23, 24, 0, 1, 2, 3, 4, 5, 6, 7, 8, 9] rfl rfl rfl rfl (by decide) rfl rfl rfl hl.1 rfl (Nat.le_of_ble_eq_true rfl) dL_isRead_543 ⟨Nat.le_of_ble_eq_true rfl, Nat.le_of_ble_eq_true rfl⟩ (fun H locs hP hD hS hG => ?_)
    refine lv_bipush (v := (-61)) hx hb dL_isRead_546 (by decide) ?_
    refine lv_icmp_ne (tgt := 555) hx hb dL_isRead_548 (by decide) (fun c => absurd c (by decide)) (fun _ => ?_)
    refine lv_iconst (v := 1) hx hb dL_isRead_551 (by decide) ?_
    refine lv_goto (tgt := 556) hx hb dL_isRead_552 (by decide) ?_
    exact W.zret (v := 1) hx hb hr (by rfl) (zg_qi rfl hP hK hD hS hG) hS.2.2 dL_isRead_556
  · have d_0 := Nat.not_le.mp (fun h => c_0 ((nI_leI (a := M) (b := i) (by omega) (by omega)).mpr h))
    refine lv_aload_n hx hb dL_isRead_18 rfl (lv_at hl 3 rfl) ?_
    refine lv_iload hx hb dL_isRead_19 (lv_at hl 0 rfl) ?_
    refine zq_cVi (As := [.int (nI i)]) (rest := []) (wc := (wRo a cI cZ cD ki pl tu le ch ca (nI N) tk th hu od (nI M) ti be clk)) (w1 := (wRo a cI cZ cD ki pl tu le ch ca (nI N) tk th hu od (nI M) ti be clk)) (wr := (wAr v cI cD lL lC lF lW lM lB lH lR lD lG)) (ws' := (wLw a v cI cZ cD ki pl tu le ch ca (nI N) tk th hu od (nI M) ti be clk lL lC lF lW lM lB lH lR lD lG)) ⟨hx, hb, hml, hown, hts⟩ (c_X3_lampOf_ok l dC dI a cI cZ cD ki pl tu le ch ca N tk th hu od M ti be clk (by omega) (by omega) i (by omega) H.size) (cwV 1 hts gL_isRead_X3_lampOf rfl rfl rfl (by decide +kernel) ⟨Nat.le_of_ble_eq_true rfl, Nat.le_of_ble_eq_true rfl⟩) hK hP hD hS hA [0, 1, 2, 3, 4, 5, 6, 7, 8, 9, 10, 11, 12, 13, 14] [15, 16, 17, 18, 19, 20, 21, 22, 23, 24] [10, 11, 12, 13, 14, 15, 16, 17, 18, 19, 20, 21, 22, 23, 24, 0, 1, 2, 3, 4, 5, 6, 7, 8, 9] rfl rfl rfl rfl (by decide) rfl rfl (ci := 3) rfl 0 rfl rfl hl.1 rfl (Nat.le_of_ble_eq_true rfl) dL_isRead_21 ⟨Nat.le_of_ble_eq_true rfl, Nat.le_of_ble_eq_true rfl⟩ (fun H locs hP hD hS => ?_)
    rw [hth i (by omega)]
    refine lv_aload_n hx hb dL_isRead_24 rfl (lv_at hl 4 rfl) ?_
    refine lv_iload hx hb dL_isRead_25 (lv_at hl 0 rfl) ?_
    refine zq_iald hx hb hK hP 19 0 rfl rfl (j := i) (by omega) (by decide) dL_isRead_27 ?_
    rw [hm0 i (by omega)]
    refine lv_iconst (v := 1) hx hb dL_isRead_28 (by decide) ?_
    refine t_isub hx hb dL_isRead_29 (v := (-1)) (by decide +kernel) ?_
    refine lv_icmp_ne (tgt := 62) hx hb dL_isRead_30 (by decide) (fun c => absurd c (by decide)) (fun _ => ?_)
    refine lv_aload_n hx hb dL_isRead_33 rfl (lv_at hl 3 rfl) ?_
    refine lv_iload hx hb dL_isRead_34 (lv_at hl 0 rfl) ?_
    refine zq_cVi (As := [.int (nI i)]) (rest := []) (wc := (wRo a cI cZ cD ki pl tu le ch ca (nI N) tk th hu od (nI M) ti be clk)) (w1 := (wRo a cI cZ cD ki pl tu le ch ca (nI N) tk th hu od (nI M) ti be clk)) (wr := (wAr v cI cD lL lC lF lW lM lB lH lR lD lG)) (ws' := (wLw a v cI cZ cD ki pl tu le ch ca (nI N) tk th hu od (nI M) ti be clk lL lC lF lW lM lB lH lR lD lG)) ⟨hx, hb, hml, hown, hts⟩ (c_X3_hoursBelow_ok l dC dI a cI cZ cD ki pl tu le ch ca N tk th hu od M ti be clk (by omega) (by omega) i (by omega) H.size) (cwV 1 hts gL_isRead_X3_hoursBelow rfl rfl rfl (by decide +kernel) ⟨Nat.le_of_ble_eq_true rfl, Nat.le_of_ble_eq_true rfl⟩) hK hP hD hS hA [0, 1, 2, 3, 4, 5, 6, 7, 8, 9, 10, 11, 12, 13, 14] [15, 16, 17, 18, 19, 20, 21, 22, 23, 24] [10, 11, 12, 13, 14, 15, 16, 17, 18, 19, 20, 21, 22, 23, 24, 0, 1, 2, 3, 4, 5, 6, 7, 8, 9] rfl rfl rfl rfl (by decide) rfl rfl (ci := 3) rfl 0 rfl rfl hl.1 rfl (Nat.le_of_ble_eq_true rfl) dL_isRead_36 ⟨Nat.le_of_ble_eq_true rfl, Nat.le_of_ble_eq_true rfl⟩ (fun H locs hP hD hS => ?_)
    rw [hlo i (by omega)]
    refine lv_aload_n hx hb dL_isRead_39 rfl (lv_at hl 4 rfl) ?_
    refine lv_iload hx hb dL_isRead_40 (lv_at hl 0 rfl) ?_
    refine zq_iald hx hb hK hP 19 0 rfl rfl (j := i) (by omega) (by decide) dL_isRead_42 ?_
    rw [hm0 i (by omega)]
    refine lv_if_ne (tgt := 50) hx hb dL_isRead_43 (by decide) (fun c => absurd c (by decide)) (fun _ => ?_)
    refine lv_iconst (v := (-1)) hx hb dL_isRead_46 (by decide) ?_
    refine lv_goto (tgt := 59) hx hb dL_isRead_47 (by decide) ?_
    refine lv_icmp_eq (tgt := 64) hx hb dL_isRead_59 (by decide) (fun _ => ?_) (fun c => absurd c (by decide))
    refine lv_aload_n hx hb dL_isRead_64 rfl (lv_at hl 4 rfl) ?_
    refine lv_iload hx hb dL_isRead_65 (lv_at hl 0 rfl) ?_
    refine zq_iald hx hb hK hP 19 0 rfl rfl (j := i) (by omega) (by decide) dL_isRead_67 ?_
    rw [hm0 i (by omega)]
    refine lv_if_ne (tgt := 74) hx hb dL_isRead_68 (by decide) (fun c => absurd c (by decide)) (fun _ => ?_)
    refine lv_goto (tgt := 485) hx hb dL_isRead_71 (by decide) ?_
    refine lv_iinc (v := nI (i + 1)) (lv' := [(9, .int (nI (i + 1))), (7, .int 0), (8, .int 0), (0, .ref (a 0)), (1, .ref (v 5)), (2, .ref (v 6)), (3, .ref (v 7)), (4, .ref (v 8)), (5, .ref (v 9)), (6, .ref (v 10))]) hx hb dL_isRead_485 hl (k := 0) rfl (nI_add _ 1) (by decide) rfl (fun ls hl => ?_)
    refine lv_goto (tgt := 9) hx hb dL_isRead_488 (by decide) ?_
    exact ih_i _ _ _ (by omega) ⟨hP, hD, hS, lv_sub hl [0, 1, 2, 3, 4, 5, 6, 7, 8, 9] rfl⟩
end
section
set_option maxHeartbeats 8000000 in
set_option maxRecDepth 100000 in
theorem c_L_isRacked (l : Launch) (hl0 : l.stackTraces = false) (dC : Nat → ClassId) (dI : Nat → Nat → Nat) (a : Nat → Nat) (cI cZ cD : ClassId) (ki pl tu le : Nat → Int32) (ch ca : Nat → UInt64) (N : Nat) (tk th hu od : Nat → Int32) (M : Nat) (ti : Int32) (be : Nat → Int32) (clk : Int32) (hN : N ≤ 40) (hM : M ≤ 30) (v : Nat → Nat) (lL : Nat → Int32) (lC lF : Nat → UInt64) (lW lM lB lH lR lD lG : Nat → Int32) (hg0 : lG 0 = nI N) (hg1 : lG 1 = nI M) (hth : ∀ i, i < M → th i = -1) (hm0 : ∀ i, i < M → lM i = 0) (hbe : ∀ i, be i = 0) (hpl : ∀ i, i < N → pl i = 0) (htu : ∀ i, i < N → tu i = 0) (hch : ∀ i, i < N → ch i = 4626322717216342016) (hca : ∀ i, i < N → ca i = 4626322717216342016) (hki : ∀ i, i < N → ki i = 2) (hlL : ∀ i, i < N → lL i = 2) (hlC : ∀ i, i < N → lC i = 4626322717216342016) (hlF : ∀ i, i < N → lF i = 4626322717216342016) (hp : ∀ i, i < 40 → zn_p (ch i)) (hc : ∀ i, i < 40 → zn_p (ca i)) (sz : Nat) : zg_M l yL_isRacked wsL_isRacked ({ frames := 9, cells := 4, slots := 24, locals := 155 } : Room) (dC, dI) (zq_T cI cZ cD) [.ref (a 0), .ref (v 1), .ref (v 2), .ref (v 3), .ref (v 4), .ref (v 5), .ref (v 10)] (wLw a v cI cZ cD ki pl tu le ch ca (nI N) tk th hu od (nI M) ti be clk lL lC lF lW lM lB lH lR lD lG) 1 (wLw a v cI cZ cD ki pl tu le ch ca (nI N) tk th hu od (nI M) ti be clk lL lC lF lW lM lB lH lR lD lG) sz 4 24 := by
  refine Met.ofW (cc := cL_isRacked) (maxL := 14) (ret := (some .boolean)) (by decide) rfl ?_
  intro p e s m args below meth c s₁ B hml hv
  obtain ⟨rfl, ⟨hsz, hP, hK, hD0⟩, hH, hE⟩ := hv
  have hx := B.exec
  have hb := B.bytes
  have hr := B.returns
  have hts := atoms_spec (ws := wsL_isRacked) B.pre
  have hown : s.vm.findClass RL = some m.cls := findClass_of_methodNamed B.named
  have hlocks := B.notSynchronized
  subst hsz
  have hD := hD0.self (sz := s.heap.size)
  generalize hAe : va_A (wLw a v cI cZ cD ki pl tu le ch ca (nI N) tk th hu od (nI M) ti be clk lL lC lF lW lM lB lH lR lD lG) s.heap.size = A at hD hH ⊢
  have hA : ∀ q : Nat, s.heap.size ≤ q → A q := fun q h => by rw [← hAe]; exact Or.inr h
  have hS : va_S A s.heap s.heap [] := va_S.rf
  have hP : va_P (dC, dI) vwCl (wLw a v cI cZ cD ki pl tu le ch ca (nI N) tk th hu od (nI M) ti be clk lL lC lF lW lM lB lH lR lD lG) s.heap := hP
  have hl := lv_entry ([.ref (a 0), .ref (v 1), .ref (v 2), .ref (v 3), .ref (v 4), .ref (v 5), .ref (v 10)]) (n := 14) (Nat.le_of_ble_eq_true rfl)
  rw [lg_entry_eq]
  generalize (lg_sl ([.ref (a 0), .ref (v 1), .ref (v 2), .ref (v 3), .ref (v 4), .ref (v 5), .ref (v 10)]) ++ List.replicate (14 - (lg_sl ([.ref (a 0), .ref (v 1), .ref (v 2), .ref (v 3), .ref (v 4), .ref (v 5), .ref (v 10)])).length) Slot.unset).toArray = ls at hl ⊢
  have hl : lv_has ls 14 [(0, .ref (a 0)), (1, .ref (v 1)), (2, .ref (v 2)), (3, .ref (v 3)), (4, .ref (v 4)), (5, .ref (v 5)), (6, .ref (v 10))] := hl
  have hc_102 := hts (.constantDouble RL 102 (4636737291354636288)) (by decide +kernel)
  have hc_60 := hts (.constantDouble RL 60 (4621256167635550208)) (by decide +kernel)
  have hdc : Op.cmpValue (FP.dcmp 4626322717216342016 4626322717216342016) CmpOp.l = 0 := by decide +kernel
  have hd9 : Op.cmpValue (FP.dcmp 4626322717216342016 4621256167635550208) CmpOp.l = 1 := by decide +kernel
  have h99 : la_ge9 4626322717216342016 = true := by decide +kernel
  have hr0 : nI (zf_cnt (la_is ki pl ch 0) N) = 0 := by rw [zw_cnt0 N (fun j hj => by simp [la_is, hki j hj])]; rfl
  have hr1 : nI (zf_cnt (la_is ki pl ch 1) N) = 0 := by rw [zw_cnt0 N (fun j hj => by simp [la_is, hki j hj])]; rfl
  have hr2 : nI (zf_cnt (la_is ki pl ch 2) N) = nI N := by rw [zw_cntn N (fun j hj => by simp [la_is, la_rd, hki j hj, hpl j hj, hch j hj, h99])]
  have hsp : nI (zf_cnt (sp_a ki tk th) M) = 0 := by rw [zw_cnt0 M (fun j hj => by simp [sp_a, hth j hj])]; rfl
  have hrs : la_rc (la_sum pl ch N) (la_sum pl ca N) = la_rc (zh N) (zh N) := by rw [zw_sum N hpl hch, zw_sum N hpl hca]
  have zk := zn_K_mono (L := 2047) (zn_sum (pl := fun _ => 0) (f := fun _ => 4626322717216342016) (n := 40) (fun _ _ => zw_B20) (by omega) N (by omega)) (by omega)
  have zk : zn_K 2047 (zh N) := zk
  refine zq_dconst0 hx hb dL_isRacked_0 ?_
  refine lv_dstore (lv' := [(7, .double 0), (0, .ref (a 0)), (1, .ref (v 1)), (2, .ref (v 2)), (3, .ref (v 3)), (4, .ref (v 4)), (5, .ref (v 5)), (6, .ref (v 10))]) hx hb dL_isRacked_1 hl (by decide) rfl (fun ls hl => ?_)
  refine zq_dconst0 hx hb dL_isRacked_3 ?_
  refine lv_dstore (lv' := [(9, .double 0), (7, .double 0), (0, .ref (a 0)), (1, .ref (v 1)), (2, .ref (v 2)), (3, .ref (v 3)), (4, .ref (v 4)), (5, .ref (v 5)), (6, .ref (v 10))]) hx hb dL_isRacked_4 hl (by decide) rfl (fun ls hl => ?_)
  refine lv_iconst (v := 0) hx hb dL_isRacked_6 (by decide) ?_
  refine lv_istore (lv' := [(11, .int 0), (9, .double 0), (7, .double 0), (0, .ref (a 0)), (1, .ref (v 1)), (2, .ref (v 2)), (3, .ref (v 3)), (4, .ref (v 4)), (5, .ref (v 5)), (6, .ref (v 10))]) hx hb dL_isRacked_7 hl (by decide) rfl (fun ls hl => ?_)
  refine zq_loop 9 N (fun i H locs ls => va_P (dC, dI) vwCl (wLw a v cI cZ cD ki pl tu le ch ca (nI N) tk th hu od (nI M) ti be clk lL lC lF lW lM lB lH lR lD lG) H ∧ va_D A (wLw a v cI cZ cD ki pl tu le ch ca (nI N) tk th hu od (nI M) ti be clk lL lC lF lW lM lB lH lR lD lG) ∧ va_S A s.heap H locs ∧ lv_has ls 14 [(11, .int (nI i)), (7, .double (zh i)), (9, .double (zh i)), (0, .ref (a 0)), (1, .ref (v 1)), (2, .ref (v 2)), (3, .ref (v 3)), (4, .ref (v 4)), (5, .ref (v 5)), (6, .ref (v 10))]) ?_ 0 (by omega) _ _ _ ⟨hP, hD, hS, lv_sub hl [0, 2, 1, 3, 4, 5, 6, 7, 8, 9] rfl⟩
  intro i hi_i ih_i H locs ls hh
  obtain ⟨hP, hD, hS, hl⟩ := hh
  refine lv_iload hx hb dL_isRacked_9 (lv_at hl 0 rfl) ?_
  refine lv_aload hx hb dL_isRacked_11 (lv_at hl 9 rfl) ?_
  refine lv_iconst (v := 0) hx hb dL_isRacked_13 (by decide) ?_
  refine zq_iald hx hb hK hP 24 0 rfl rfl (j := 0) (by decide) (by decide) dL_isRacked_14 ?_
  rw [hg0]
  refine lv_icmp_ge (tgt := 122) hx hb dL_isRacked_15 (by decide) (fun c_0 => ?_) (fun c_0 => ?_)
  · have d_0 := (nI_leI (a := N) (b := i) (by omega) (by omega)).mp c_0
    have ei_i : i = N := by omega
    rw [ei_i] at hl
    refine lv_iconst (v := 0) hx hb dL_isRacked_122 (by decide) ?_
    refine lv_istore (lv' := [(11, .int 0), (7, .double (zh N)), (9, .double (zh N)), (0, .ref (a 0)), (1, .ref (v 1)), (2, .ref (v 2)), (3, .ref (v 3)), (4, .ref (v 4)), (5, .ref (v 5)), (6, .ref (v 10))]) hx hb dL_isRacked_123 hl (by decide) rfl (fun ls hl => ?_)
    refine lv_iload hx hb dL_isRacked_125 (lv_at hl 0 rfl) ?_
    refine lv_iconst (v := 3) hx hb dL_isRacked_127 (by decide) ?_
    refine lv_icmp_ge (tgt := 204) hx hb dL_isRacked_128 (by decide) (fun c => absurd c (by decide)) (fun _ => ?_)
    refine lv_iconst (v := 0) hx hb dL_isRacked_131 (by decide) ?_
    refine lv_istore (lv' := [(12, .int 0), (11, .int 0), (7, .double (zh N)), (9, .double (zh N)), (0, .ref (a 0)), (1, .ref (v 1)), (2, .ref (v 2)), (3, .ref (v 3)), (4, .ref (v 4)), (5, .ref (v 5)), (6, .ref (v 10))]) hx hb dL_isRacked_132 hl (by decide) rfl (fun ls hl => ?_)
    refine lv_iconst (v := 0) hx hb dL_isRacked_134 (by decide) ?_
    refine lv_istore (lv' := [(13, .int 0), (12, .int 0), (11, .int 0), (7, .double (zh N)), (9, .double (zh N)), (0, .ref (a 0)), (1, .ref (v 1)), (2, .ref (v 2)), (3, .ref (v 3)), (4, .ref (v 4)), (5, .ref (v 5)), (6, .ref (v 10))]) hx hb dL_isRacked_135 hl (by decide) rfl (fun ls hl => ?_)
    refine zq_loop 137 N (fun k0 H locs ls => va_P (dC, dI) vwCl (wLw a v cI cZ cD ki pl tu le ch ca (nI N) tk th hu od (nI M) ti be clk lL lC lF lW lM lB lH lR lD lG) H ∧ va_D A (wLw a v cI cZ cD ki pl tu le ch ca (nI N) tk th hu od (nI M) ti be clk lL lC lF lW lM lB lH lR lD lG) ∧ va_S A s.heap H locs ∧ lv_has ls 14 [(12, .int 0), (13, .int (nI k0)), (11, .int 0), (7, .double (zh N)), (9, .double (zh N)), (0, .ref (a 0)), (1, .ref (v 1)), (2, .ref (v 2)), (3, .ref (v 3)), (4, .ref (v 4)), (5, .ref (v 5)), (6, .ref (v 10))]) ?_ 0 (by omega) _ _ _ ⟨hP, hD, hS, lv_sub hl [1, 0, 2, 3, 4, 5, 6, 7, 8, 9, 10, 11] rfl⟩
    intro k0 hi_k0 ih_k0 H locs ls hh
    obtain ⟨hP, hD, hS, hl⟩ := hh
    refine lv_iload hx hb dL_isRacked_137 (lv_at hl 1 rfl) ?_
    refine lv_aload hx hb dL_isRacked_139 (lv_at hl 11 rfl) ?_
    refine lv_iconst (v := 0) hx hb dL_isRacked_141 (by decide) ?_
    refine zq_iald hx hb hK hP 24 0 rfl rfl (j := 0) (by decide) (by decide) dL_isRacked_142 ?_
    rw [hg0]
    refine lv_icmp_ge (tgt := 185) hx hb dL_isRacked_143 (by decide) (fun c_1 => ?_) (fun c_1 => ?_)
    · have d_1 := (nI_leI (a := N) (b := k0) (by omega) (by omega)).mp c_1
      have ei_k0 : k0 = N := by omega
      refine lv_aload_n hx hb dL_isRacked_185 rfl (lv_at hl 5 rfl) ?_
      refine lv_iload hx hb dL_isRacked_186 (lv_at hl 2 rfl) ?_
      refine zq_cWi (As := [.ref (a 0), .int 0]) (rest := []) (wc := (wRo a cI cZ cD ki pl tu le ch ca (nI N) tk th hu od (nI M) ti be clk)) (w1 := (wRo a cI cZ cD ki pl tu le ch ca (nI N) tk th hu od (nI M) ti be clk)) (wr := (wAr v cI cD lL lC lF lW lM lB lH lR lD lG)) (ws' := (wLw a v cI cZ cD ki pl tu le ch ca (nI N) tk th hu od (nI M) ti be clk lL lC lF lW lM lB lH lR lD lG)) ⟨hx, hb, hml, hown, hts⟩ (c_L_ready_ok l dC dI a cI cZ cD ki pl tu le ch ca N tk th hu od M ti be clk (by omega) (by omega) 0 (by decide +kernel) H.size) (vx_cwSW 2 hts gL_isRacked_L_ready rfl rfl rfl (by decide +kernel) ⟨Nat.le_of_ble_eq_true rfl, Nat.le_of_ble_eq_true rfl⟩) hK hP hD hS hA [0, 1, 2, 3, 4, 5, 6, 7, 8, 9, 10, 11, 12, 13, 14] [15, 16, 17, 18, 19, 20, 21, 22, 23, 24] [10, 11, 12, 13, 14, 15, 16, 17, 18, 19, 20, 21, 22, 23, 24, 0, 1, 2, 3, 4, 5, 6, 7, 8, 9] rfl rfl rfl rfl (by decide) rfl rfl rfl hl.1 rfl (Nat.le_of_ble_eq_true rfl) dL_isRacked_188 ⟨Nat.le_of_ble_eq_true rfl, Nat.le_of_ble_eq_true rfl⟩ (fun H locs hP hD hS => ?_)
      rw [hr0]
      refine lv_iload hx hb dL_isRacked_191 (lv_at hl 0 rfl) ?_
      refine lv_icmp_eq (tgt := 198) hx hb dL_isRacked_193 (by decide) (fun _ => ?_) (fun c => absurd c (by decide))
      refine lv_iinc (v := 1) (lv' := [(11, .int 1), (12, .int 0), (13, .int (nI k0)), (7, .double (zh N)), (9, .double (zh N)), (0, .ref (a 0)), (1, .ref (v 1)), (2, .ref (v 2)), (3, .ref (v 3)), (4, .ref (v 4)), (5, .ref (v 5)), (6, .ref (v 10))]) hx hb dL_isRacked_198 hl (k := 2) rfl (rfl) (by decide) rfl (fun ls hl => ?_)
      refine lv_goto (tgt := 125) hx hb dL_isRacked_201 (by decide) ?_
      refine lv_iload hx hb dL_isRacked_125 (lv_at hl 0 rfl) ?_
      refine lv_iconst (v := 3) hx hb dL_isRacked_127 (by decide) ?_
      refine lv_icmp_ge (tgt := 204) hx hb dL_isRacked_128 (by decide) (fun c => absurd c (by decide)) (fun _ => ?_)
      refine lv_iconst (v := 0) hx hb dL_isRacked_131 (by decide) ?_
      refine lv_istore (lv' := [(12, .int 0), (11, .int 1), (13, .int (nI k0)), (7, .double (zh N)), (9, .double (zh N)), (0, .ref (a 0)), (1, .ref (v 1)), (2, .ref (v 2)), (3, .ref (v 3)), (4, .ref (v 4)), (5, .ref (v 5)), (6, .ref (v 10))]) hx hb dL_isRacked_132 hl (by decide) rfl (fun ls hl => ?_)
      refine lv_iconst (v := 0) hx hb dL_isRacked_134 (by decide) ?_
      refine lv_istore (lv' := [(13, .int 0), (12, .int 0), (11, .int 1), (7, .double (zh N)), (9, .double (zh N)), (0, .ref (a 0)), (1, .ref (v 1)), (2, .ref (v 2)), (3, .ref (v 3)), (4, .ref (v 4)), (5, .ref (v 5)), (6, .ref (v 10))]) hx hb dL_isRacked_135 hl (by decide) rfl (fun ls hl => ?_)
      refine zq_loop 137 N (fun k1 H locs ls => va_P (dC, dI) vwCl (wLw a v cI cZ cD ki pl tu le ch ca (nI N) tk th hu od (nI M) ti be clk lL lC lF lW lM lB lH lR lD lG) H ∧ va_D A (wLw a v cI cZ cD ki pl tu le ch ca (nI N) tk th hu od (nI M) ti be clk lL lC lF lW lM lB lH lR lD lG) ∧ va_S A s.heap H locs ∧ lv_has ls 14 [(12, .int 0), (13, .int (nI k1)), (11, .int 1), (7, .double (zh N)), (9, .double (zh N)), (0, .ref (a 0)), (1, .ref (v 1)), (2, .ref (v 2)), (3, .ref (v 3)), (4, .ref (v 4)), (5, .ref (v 5)), (6, .ref (v 10))]) ?_ 0 (by omega) _ _ _ ⟨hP, hD, hS, lv_sub hl [1, 0, 2, 3, 4, 5, 6, 7, 8, 9, 10, 11] rfl⟩
      intro k1 hi_k1 ih_k1 H locs ls hh
      obtain ⟨hP, hD, hS, hl⟩ := hh
      refine lv_iload hx hb dL_isRacked_137 (lv_at hl 1 rfl) ?_
      refine lv_aload hx hb dL_isRacked_139 (lv_at hl 11 rfl) ?_
      refine lv_iconst (v := 0) hx hb dL_isRacked_141 (by decide) ?_
      refine zq_iald hx hb hK hP 24 0 rfl rfl (j := 0) (by decide) (by decide) dL_isRacked_142 ?_
      rw [hg0]
      refine lv_icmp_ge (tgt := 185) hx hb dL_isRacked_143 (by decide) (fun c_2 => ?_) (fun c_2 => ?_)
      · have d_2 := (nI_leI (a := N) (b := k1) (by omega) (by omega)).mp c_2
        have ei_k1 : k1 = N := by omega
        refine lv_aload_n hx hb dL_isRacked_185 rfl (lv_at hl 5 rfl) ?_
        refine lv_iload hx hb dL_isRacked_186 (lv_at hl 2 rfl) ?_
        refine zq_cWi (As := [.ref (a 0), .int 1]) (rest := []) (wc := (wRo a cI cZ cD ki pl tu le ch ca (nI N) tk th hu od (nI M) ti be clk)) (w1 := (wRo a cI cZ cD ki pl tu le ch ca (nI N) tk th hu od (nI M) ti be clk)) (wr := (wAr v cI cD lL lC lF lW lM lB lH lR lD lG)) (ws' := (wLw a v cI cZ cD ki pl tu le ch ca (nI N) tk th hu od (nI M) ti be clk lL lC lF lW lM lB lH lR lD lG)) ⟨hx, hb, hml, hown, hts⟩ (c_L_ready_ok l dC dI a cI cZ cD ki pl tu le ch ca N tk th hu od M ti be clk (by omega) (by omega) 1 (by decide +kernel) H.size) (vx_cwSW 2 hts gL_isRacked_L_ready rfl rfl rfl (by decide +kernel) ⟨Nat.le_of_ble_eq_true rfl, Nat.le_of_ble_eq_true rfl⟩) hK hP hD hS hA [0, 1, 2, 3, 4, 5, 6, 7, 8, 9, 10, 11, 12, 13, 14] [15, 16, 17, 18, 19, 20, 21, 22, 23, 24] [10, 11, 12, 13, 14, 15, 16, 17, 18, 19, 20, 21, 22, 23, 24, 0, 1, 2, 3, 4, 5, 6, 7, 8, 9] rfl rfl rfl rfl (by decide) rfl rfl rfl hl.1 rfl (Nat.le_of_ble_eq_true rfl) dL_isRacked_188 ⟨Nat.le_of_ble_eq_true rfl, Nat.le_of_ble_eq_true rfl⟩ (fun H locs hP hD hS => ?_)
        rw [hr1]
        refine lv_iload hx hb dL_isRacked_191 (lv_at hl 0 rfl) ?_
        refine lv_icmp_eq (tgt := 198) hx hb dL_isRacked_193 (by decide) (fun _ => ?_) (fun c => absurd c (by decide))
        refine lv_iinc (v := 2) (lv' := [(11, .int 2), (12, .int 0), (13, .int (nI k1)), (7, .double (zh N)), (9, .double (zh N)), (0, .ref (a 0)), (1, .ref (v 1)), (2, .ref (v 2)), (3, .ref (v 3)), (4, .ref (v 4)), (5, .ref (v 5)), (6, .ref (v 10))]) hx hb dL_isRacked_198 hl (k := 2) rfl (rfl) (by decide) rfl (fun ls hl => ?_)
        refine lv_goto (tgt := 125) hx hb dL_isRacked_201 (by decide) ?_
        refine lv_iload hx hb dL_isRacked_125 (lv_at hl 0 rfl) ?_
        refine lv_iconst (v := 3) hx hb dL_isRacked_127 (by decide) ?_
        refine lv_icmp_ge (tgt := 204) hx hb dL_isRacked_128 (by decide) (fun c => absurd c (by decide)) (fun _ => ?_)
        refine lv_iconst (v := 0) hx hb dL_isRacked_131 (by decide) ?_
        refine lv_istore (lv' := [(12, .int 0), (11, .int 2), (13, .int (nI k1)), (7, .double (zh N)), (9, .double (zh N)), (0, .ref (a 0)), (1, .ref (v 1)), (2, .ref (v 2)), (3, .ref (v 3)), (4, .ref (v 4)), (5, .ref (v 5)), (6, .ref (v 10))]) hx hb dL_isRacked_132 hl (by decide) rfl (fun ls hl => ?_)
        refine lv_iconst (v := 0) hx hb dL_isRacked_134 (by decide) ?_
        refine lv_istore (lv' := [(13, .int 0), (12, .int 0), (11, .int 2), (7, .double (zh N)), (9, .double (zh N)), (0, .ref (a 0)), (1, .ref (v 1)), (2, .ref (v 2)), (3, .ref (v 3)), (4, .ref (v 4)), (5, .ref (v 5)), (6, .ref (v 10))]) hx hb dL_isRacked_135 hl (by decide) rfl (fun ls hl => ?_)
        refine zq_loop 137 N (fun k2 H locs ls => va_P (dC, dI) vwCl (wLw a v cI cZ cD ki pl tu le ch ca (nI N) tk th hu od (nI M) ti be clk lL lC lF lW lM lB lH lR lD lG) H ∧ va_D A (wLw a v cI cZ cD ki pl tu le ch ca (nI N) tk th hu od (nI M) ti be clk lL lC lF lW lM lB lH lR lD lG) ∧ va_S A s.heap H locs ∧ lv_has ls 14 [(12, .int (nI k2)), (13, .int (nI k2)), (11, .int 2), (7, .double (zh N)), (9, .double (zh N)), (0, .ref (a 0)), (1, .ref (v 1)), (2, .ref (v 2)), (3, .ref (v 3)), (4, .ref (v 4)), (5, .ref (v 5)), (6, .ref (v 10))]) ?_ 0 (by omega) _ _ _ ⟨hP, hD, hS, lv_sub hl [1, 0, 2, 3, 4, 5, 6, 7, 8, 9, 10, 11] rfl⟩
        intro k2 hi_k2 ih_k2 H locs ls hh
        obtain ⟨hP, hD, hS, hl⟩ := hh
        refine lv_iload hx hb dL_isRacked_137 (lv_at hl 1 rfl) ?_
        refine lv_aload hx hb dL_isRacked_139 (lv_at hl 11 rfl) ?_
        refine lv_iconst (v := 0) hx hb dL_isRacked_141 (by decide) ?_
        refine zq_iald hx hb hK hP 24 0 rfl rfl (j := 0) (by decide) (by decide) dL_isRacked_142 ?_
        rw [hg0]
        refine lv_icmp_ge (tgt := 185) hx hb dL_isRacked_143 (by decide) (fun c_3 => ?_) (fun c_3 => ?_)
        · have d_3 := (nI_leI (a := N) (b := k2) (by omega) (by omega)).mp c_3
          have ei_k2 : k2 = N := by omega
          refine lv_aload_n hx hb dL_isRacked_185 rfl (lv_at hl 5 rfl) ?_
          refine lv_iload hx hb dL_isRacked_186 (lv_at hl 2 rfl) ?_
          refine zq_cWi (As := [.ref (a 0), .int 2]) (rest := []) (wc := (wRo a cI cZ cD ki pl tu le ch ca (nI N) tk th hu od (nI M) ti be clk)) (w1 := (wRo a cI cZ cD ki pl tu le ch ca (nI N) tk th hu od (nI M) ti be clk)) (wr := (wAr v cI cD lL lC lF lW lM lB lH lR lD lG)) (ws' := (wLw a v cI cZ cD ki pl tu le ch ca (nI N) tk th hu od (nI M) ti be clk lL lC lF lW lM lB lH lR lD lG)) ⟨hx, hb, hml, hown, hts⟩ (c_L_ready_ok l dC dI a cI cZ cD ki pl tu le ch ca N tk th hu od M ti be clk (by omega) (by omega) 2 (by decide +kernel) H.size) (vx_cwSW 2 hts gL_isRacked_L_ready rfl rfl rfl (by decide +kernel) ⟨Nat.le_of_ble_eq_true rfl, Nat.le_of_ble_eq_true rfl⟩) hK hP hD hS hA [0, 1, 2, 3, 4, 5, 6, 7, 8, 9, 10, 11, 12, 13, 14] [15, 16, 17, 18, 19, 20, 21, 22, 23, 24] [10, 11, 12, 13, 14, 15, 16, 17, 18, 19, 20, 21, 22, 23, 24, 0, 1, 2, 3, 4, 5, 6, 7, 8, 9] rfl rfl rfl rfl (by decide) rfl rfl rfl hl.1 rfl (Nat.le_of_ble_eq_true rfl) dL_isRacked_188 ⟨Nat.le_of_ble_eq_true rfl, Nat.le_of_ble_eq_true rfl⟩ (fun H locs hP hD hS => ?_)
          rw [hr2]
          refine lv_iload hx hb dL_isRacked_191 (lv_at hl 0 rfl) ?_
          refine lv_icmp_eq (tgt := 198) hx hb dL_isRacked_193 (by decide) (fun c_4 => ?_) (fun c_4 => ?_)
          · have d_4 := (nI_eq (a := N) (b := k2) (by omega) (by omega)).mp c_4
            refine lv_iinc (v := 3) (lv' := [(11, .int 3), (12, .int (nI k2)), (13, .int (nI k2)), (7, .double (zh N)), (9, .double (zh N)), (0, .ref (a 0)), (1, .ref (v 1)), (2, .ref (v 2)), (3, .ref (v 3)), (4, .ref (v 4)), (5, .ref (v 5)), (6, .ref (v 10))]) hx hb dL_isRacked_198 hl (k := 2) rfl (rfl) (by decide) rfl (fun ls hl => ?_)
            refine lv_goto (tgt := 125) hx hb dL_isRacked_201 (by decide) ?_
            refine lv_iload hx hb dL_isRacked_125 (lv_at hl 0 rfl) ?_
            refine lv_iconst (v := 3) hx hb dL_isRacked_127 (by decide) ?_
            refine lv_icmp_ge (tgt := 204) hx hb dL_isRacked_128 (by decide) (fun _ => ?_) (fun c => absurd c (by decide))
            refine lv_iconst (v := 0) hx hb dL_isRacked_204 (by decide) ?_
            refine lv_istore (lv' := [(11, .int 0), (12, .int (nI k2)), (13, .int (nI k2)), (7, .double (zh N)), (9, .double (zh N)), (0, .ref (a 0)), (1, .ref (v 1)), (2, .ref (v 2)), (3, .ref (v 3)), (4, .ref (v 4)), (5, .ref (v 5)), (6, .ref (v 10))]) hx hb dL_isRacked_205 hl (by decide) rfl (fun ls hl => ?_)
            refine lv_iconst (v := 0) hx hb dL_isRacked_207 (by decide) ?_
            refine lv_istore (lv' := [(12, .int 0), (11, .int 0), (13, .int (nI k2)), (7, .double (zh N)), (9, .double (zh N)), (0, .ref (a 0)), (1, .ref (v 1)), (2, .ref (v 2)), (3, .ref (v 3)), (4, .ref (v 4)), (5, .ref (v 5)), (6, .ref (v 10))]) hx hb dL_isRacked_208 hl (by decide) rfl (fun ls hl => ?_)
            refine zq_loop 210 M (fun j2 H locs ls => va_P (dC, dI) vwCl (wLw a v cI cZ cD ki pl tu le ch ca (nI N) tk th hu od (nI M) ti be clk lL lC lF lW lM lB lH lR lD lG) H ∧ va_D A (wLw a v cI cZ cD ki pl tu le ch ca (nI N) tk th hu od (nI M) ti be clk lL lC lF lW lM lB lH lR lD lG) ∧ va_S A s.heap H locs ∧ lv_has ls 14 [(11, .int 0), (12, .int (nI j2)), (7, .double (zh N)), (9, .double (zh N)), (0, .ref (a 0)), (1, .ref (v 1)), (2, .ref (v 2)), (3, .ref (v 3)), (4, .ref (v 4)), (5, .ref (v 5)), (6, .ref (v 10))]) ?_ 0 (by omega) _ _ _ ⟨hP, hD, hS, lv_sub hl [1, 0, 3, 4, 5, 6, 7, 8, 9, 10, 11] rfl⟩
            intro j2 hi_j2 ih_j2 H locs ls hh
            obtain ⟨hP, hD, hS, hl⟩ := hh
            refine lv_iload hx hb dL_isRacked_210 (lv_at hl 1 rfl) ?_
            refine lv_aload hx hb dL_isRacked_212 (lv_at hl 10 rfl) ?_
            refine lv_iconst (v := 1) hx hb dL_isRacked_214 (by decide) ?_
            refine zq_iald hx hb hK hP 24 0 rfl rfl (j := 1) (by decide) (by decide) dL_isRacked_215 ?_
            rw [hg1]
            refine lv_icmp_ge (tgt := 295) hx hb dL_isRacked_216 (by decide) (fun c_5 => ?_) (fun c_5 => ?_)
            · have d_5 := (nI_leI (a := M) (b := j2) (by omega) (by omega)).mp c_5
              have ei_j2 : j2 = M := by omega
              refine lv_aload_n hx hb dL_isRacked_295 rfl (lv_at hl 4 rfl) ?_
              refine zq_cVi (As := []) (rest := []) (wc := (wRo a cI cZ cD ki pl tu le ch ca (nI N) tk th hu od (nI M) ti be clk)) (w1 := (wRo a cI cZ cD ki pl tu le ch ca (nI N) tk th hu od (nI M) ti be clk)) (wr := (wAr v cI cD lL lC lF lW lM lB lH lR lD lG)) (ws' := (wLw a v cI cZ cD ki pl tu le ch ca (nI N) tk th hu od (nI M) ti be clk lL lC lF lW lM lB lH lR lD lG)) ⟨hx, hb, hml, hown, hts⟩ (c_X3_spares l dC dI a cI cZ cD ki pl tu le ch ca N tk th hu od M ti be clk (by omega) (by omega) (fun mi hm q => absurd (hth mi hm) q) H.size) (cwV 0 hts gL_isRacked_X3_spares rfl rfl rfl (by decide +kernel) ⟨Nat.le_of_ble_eq_true rfl, Nat.le_of_ble_eq_true rfl⟩) hK hP hD hS hA [0, 1, 2, 3, 4, 5, 6, 7, 8, 9, 10, 11, 12, 13, 14] [15, 16, 17, 18, 19, 20, 21, 22, 23, 24] [10, 11, 12, 13, 14, 15, 16, 17, 18, 19, 20, 21, 22, 23, 24, 0, 1, 2, 3, 4, 5, 6, 7, 8, 9] rfl rfl rfl rfl (by decide) rfl rfl (ci := 3) rfl 0 rfl rfl hl.1 rfl (Nat.le_of_ble_eq_true rfl) dL_isRacked_296 ⟨Nat.le_of_ble_eq_true rfl, Nat.le_of_ble_eq_true rfl⟩ (fun H locs hP hD hS => ?_)
              rw [hsp]
              refine lv_iload hx hb dL_isRacked_299 (lv_at hl 0 rfl) ?_
              refine lv_icmp_ne (tgt := 379) hx hb dL_isRacked_301 (by decide) (fun c => absurd c (by decide)) (fun _ => ?_)
              refine lv_aload_n hx hb dL_isRacked_304 rfl (lv_at hl 4 rfl) ?_
              refine zq_cVi (As := []) (rest := []) (wc := (wRo a cI cZ cD ki pl tu le ch ca (nI N) tk th hu od (nI M) ti be clk)) (w1 := (wRo a cI cZ cD ki pl tu le ch ca (nI N) tk th hu od (nI M) ti be clk)) (wr := (wAr v cI cD lL lC lF lW lM lB lH lR lD lG)) (ws' := (wLw a v cI cZ cD ki pl tu le ch ca (nI N) tk th hu od (nI M) ti be clk lL lC lF lW lM lB lH lR lD lG)) ⟨hx, hb, hml, hown, hts⟩ (c_X3_rackCharge l dC dI a cI cZ cD ki pl tu le ch ca N tk th hu od M ti be clk (by omega) (by omega) (hp) (hc) H.size) (cwV 0 hts gL_isRacked_X3_rackCharge rfl rfl rfl (by decide +kernel) ⟨Nat.le_of_ble_eq_true rfl, Nat.le_of_ble_eq_true rfl⟩) hK hP hD hS hA [0, 1, 2, 3, 4, 5, 6, 7, 8, 9, 10, 11, 12, 13, 14] [15, 16, 17, 18, 19, 20, 21, 22, 23, 24] [10, 11, 12, 13, 14, 15, 16, 17, 18, 19, 20, 21, 22, 23, 24, 0, 1, 2, 3, 4, 5, 6, 7, 8, 9] rfl rfl rfl rfl (by decide) rfl rfl (ci := 3) rfl 0 rfl rfl hl.1 rfl (Nat.le_of_ble_eq_true rfl) dL_isRacked_305 ⟨Nat.le_of_ble_eq_true rfl, Nat.le_of_ble_eq_true rfl⟩ (fun H locs hP hD hS => ?_)
              rw [hrs]
              refine lv_dload hx hb dL_isRacked_308 (lv_at hl 3 rfl) ?_
              refine zq_dconst0 hx hb dL_isRacked_310 ?_
              refine lv_dcmp hx hb dL_isRacked_311 ?_
              refine lv_if_ne (tgt := 319) hx hb dL_isRacked_312 (by decide) (fun c_6 => ?_) (fun c_6 => ?_)
              · have hk0 : ¬ (zh N).toNat = 0 := fun q => c_6 (of_decide_eq_true ((fz_eq0 (Nat.le_of_lt (zn_K_le zk (by decide)))).mpr q))
                have hg9 := (fz_gt0 (Nat.le_of_lt (zn_K_le zk (by decide)))).mpr hk0
                refine lv_dload hx hb dL_isRacked_319 (lv_at hl 2 rfl) ?_
                refine lv_dload hx hb dL_isRacked_321 (lv_at hl 3 rfl) ?_
                refine lv_ddiv hx hb dL_isRacked_323 (zn_of_ne (zn_divn zk zk (by decide) hk0).1) ?_
                refine lv_ldc2d hx hb hown hc_102 dL_isRacked_324 ?_
                refine lv_dmul hx hb dL_isRacked_327 (zn_of_ne (zn_divn zk zk (by decide) hk0).2) ?_
                refine lv_d2i hx hb dL_isRacked_328 ?_
                rw [show la_rc (zh N) (zh N) = FP.d2i (FP.dmul (FP.ddiv (zh N) (zh N)) 4636737291354636288) from by rw [la_rc, if_pos hg9]]
                refine lv_icmp_ne (tgt := 379) hx hb dL_isRacked_329 (by decide) (fun c_7 => ?_) (fun c_7 => ?_)
                · exact absurd rfl c_7
                · refine lv_aload_n hx hb dL_isRacked_332 rfl (lv_at hl 4 rfl) ?_
                  refine lv_aload hx hb dL_isRacked_333 (lv_at hl 10 rfl) ?_
                  refine lv_iconst (v := 0) hx hb dL_isRacked_335 (by decide) ?_
                  refine zq_iald hx hb hK hP 24 0 rfl rfl (j := 0) (by decide) (by decide) dL_isRacked_336 ?_
                  rw [hg0]
                  refine zl_cWi (As := [.ref (a 0), .int (nI N)]) (rest := []) (wc := (wRo a cI cZ cD ki pl tu le ch ca (nI N) tk th hu od (nI M) ti be clk)) (wr := (wAr v cI cD lL lC lF lW lM lB lH lR lD lG)) ⟨hx, hb, hml, hown, hts⟩ (c_L_placeOf_bad l hl0 dC dI a cI cZ cD ki pl tu le ch ca N tk th hu od M ti be clk (by omega) (by omega) (nI N) (zw_top (by omega)) H.size) (vx_cwSW 2 hts gL_isRacked_L_placeOf rfl rfl rfl (by decide +kernel) ⟨Nat.le_of_ble_eq_true rfl, Nat.le_of_ble_eq_true rfl⟩) hK hP hD hS hA (hH.kept hS.2.1) hE [0, 1, 2, 3, 4, 5, 6, 7, 8, 9, 10, 11, 12, 13, 14] [15, 16, 17, 18, 19, 20, 21, 22, 23, 24] [10, 11, 12, 13, 14, 15, 16, 17, 18, 19, 20, 21, 22, 23, 24, 0, 1, 2, 3, 4, 5, 6, 7, 8, 9] rfl rfl rfl rfl (by decide) rfl rfl rfl hl.1 rfl (Nat.le_of_ble_eq_true rfl) dL_isRacked_337 ⟨Nat.le_of_ble_eq_true rfl, Nat.le_of_ble_eq_true rfl⟩ (fun H locs hP hD hS hG => ?_)
                  refine lv_bipush (v := (-61)) hx hb dL_isRacked_340 (by decide) ?_
                  refine lv_icmp_ne (tgt := 379) hx hb dL_isRacked_342 (by decide) (fun c => absurd c (by decide)) (fun _ => ?_)
                  refine lv_aload_n hx hb dL_isRacked_345 rfl (lv_at hl 4 rfl) ?_
                  refine lv_iconst (v := (-1)) hx hb dL_isRacked_346 (by decide) ?_
                  refine zl_cWi (As := [.ref (a 0), .int (-1)]) (rest := []) (wc := (wRo a cI cZ cD ki pl tu le ch ca (nI N) tk th hu od (nI M) ti be clk)) (wr := (wAr v cI cD lL lC lF lW lM lB lH lR lD lG)) ⟨hx, hb, hml, hown, hts⟩ (c_L_placeOf_bad l hl0 dC dI a cI cZ cD ki pl tu le ch ca N tk th hu od M ti be clk (by omega) (by omega) (-1) (zw_m1) H.size) (vx_cwSW 2 hts gL_isRacked_L_placeOf rfl rfl rfl (by decide +kernel) ⟨Nat.le_of_ble_eq_true rfl, Nat.le_of_ble_eq_true rfl⟩) hK hP hD hS hA (hH.kept hS.2.1) hE [0, 1, 2, 3, 4, 5, 6, 7, 8, 9, 10, 11, 12, 13, 14] [15, 16, 17, 18, 19, 20, 21, 22, 23, 24] [10, 11, 12, 13, 14, 15, 16, 17, 18, 19, 20, 21, 22, 23, 24, 0, 1, 2, 3, 4, 5, 6, 7, 8, 9] rfl rfl rfl rfl (by decide) rfl rfl rfl hl.1 rfl (Nat.le_of_ble_eq_true rfl) dL_isRacked_347 ⟨Nat.le_of_ble_eq_true rfl, Nat.le_of_ble_eq_true rfl⟩ (fun H locs hP hD hS hG => ?_)
                  refine lv_bipush (v := (-61)) hx hb dL_isRacked_350 (by decide) ?_
                  refine lv_icmp_ne (tgt := 379) hx hb dL_isRacked_352 (by decide) (fun c => absurd c (by decide)) (fun _ => ?_)
                  refine lv_aload_n hx hb dL_isRacked_355 rfl (lv_at hl 4 rfl) ?_
                  refine lv_iconst (v := 3) hx hb dL_isRacked_356 (by decide) ?_
                  refine zl_cWi (As := [.ref (a 0), .int 3]) (rest := []) (wc := (wRo a cI cZ cD ki pl tu le ch ca (nI N) tk th hu od (nI M) ti be clk)) (wr := (wAr v cI cD lL lC lF lW lM lB lH lR lD lG)) ⟨hx, hb, hml, hown, hts⟩ (c_L_ready_bad l hl0 dC dI a cI cZ cD ki pl tu le ch ca N tk th hu od M ti be clk (by omega) (by omega) 3 (by decide +kernel) H.size) (vx_cwSW 2 hts gL_isRacked_L_ready rfl rfl rfl (by decide +kernel) ⟨Nat.le_of_ble_eq_true rfl, Nat.le_of_ble_eq_true rfl⟩) hK hP hD hS hA (hH.kept hS.2.1) hE [0, 1, 2, 3, 4, 5, 6, 7, 8, 9, 10, 11, 12, 13, 14] [15, 16, 17, 18, 19, 20, 21, 22, 23, 24] [10, 11, 12, 13, 14, 15, 16, 17, 18, 19, 20, 21, 22, 23, 24, 0, 1, 2, 3, 4, 5, 6, 7, 8, 9] rfl rfl rfl rfl (by decide) rfl rfl rfl hl.1 rfl (Nat.le_of_ble_eq_true rfl) dL_isRacked_357 ⟨Nat.le_of_ble_eq_true rfl, Nat.le_of_ble_eq_true rfl⟩ (fun H locs hP hD hS hG => ?_)
                  refine lv_bipush (v := (-62)) hx hb dL_isRacked_360 (by decide) ?_
                  refine lv_icmp_ne (tgt := 379) hx hb dL_isRacked_362 (by decide) (fun c => absurd c (by decide)) (fun _ => ?_)
                  refine lv_aload_n hx hb dL_isRacked_365 rfl (lv_at hl 4 rfl) ?_
                  refine lv_iconst (v := (-1)) hx hb dL_isRacked_366 (by decide) ?_
                  refine zl_cWi (As := [.ref (a 0), .int (-1)]) (rest := []) (wc := (wRo a cI cZ cD ki pl tu le ch ca (nI N) tk th hu od (nI M) ti be clk)) (wr := (wAr v cI cD lL lC lF lW lM lB lH lR lD lG)) ⟨hx, hb, hml, hown, hts⟩ (c_L_ready_bad l hl0 dC dI a cI cZ cD ki pl tu le ch ca N tk th hu od M ti be clk (by omega) (by omega) (-1) (by decide +kernel) H.size) (vx_cwSW 2 hts gL_isRacked_L_ready rfl rfl rfl (by decide +kernel) ⟨Nat.le_of_ble_eq_true rfl, Nat.le_of_ble_eq_true rfl⟩) hK hP hD hS hA (hH.kept hS.2.1) hE [0, 1, 2, 3, 4, 5, 6, 7, 8, 9, 10, 11, 12, 13, 14] [15, 16, 17, 18, 19, 20, 21, 22, 23, 24] [10, 11, 12, 13, 14, 15, 16, 17, 18, 19, 20, 21, 22, 23, 24, 0, 1, 2, 3, 4, 5, 6, 7, 8, 9] rfl rfl rfl rfl (by decide) rfl rfl rfl hl.1 rfl (Nat.le_of_ble_eq_true rfl) dL_isRacked_367 ⟨Nat.le_of_ble_eq_true rfl, Nat.le_of_ble_eq_true rfl⟩ (fun H locs hP hD hS hG => ?_)
                  refine lv_bipush (v := (-62)) hx hb dL_isRacked_370 (by decide) ?_
                  refine lv_icmp_ne (tgt := 379) hx hb dL_isRacked_372 (by decide) (fun c => absurd c (by decide)) (fun _ => ?_)
                  refine lv_iconst (v := 1) hx hb dL_isRacked_375 (by decide) ?_
                  refine lv_goto (tgt := 380) hx hb dL_isRacked_376 (by decide) ?_
                  exact W.zret (v := 1) hx hb hr (by rfl) (zg_qi rfl hP hK hD hS hG) hS.2.2 dL_isRacked_380
              · refine lv_iconst (v := 0) hx hb dL_isRacked_315 (by decide) ?_
                refine lv_goto (tgt := 329) hx hb dL_isRacked_316 (by decide) ?_
                have hk0 : (zh N).toNat = 0 := (fz_eq0 (Nat.le_of_lt (zn_K_le zk (by decide)))).mp (decide_eq_true c_6)
                have hg9 : ¬ la_gt (zh N) 0 = true := fun q => (fz_gt0 (Nat.le_of_lt (zn_K_le zk (by decide)))).mp q hk0
                rw [show la_rc (zh N) (zh N) = 0 from by rw [la_rc, if_neg hg9]]
                refine lv_icmp_ne (tgt := 379) hx hb dL_isRacked_329 (by decide) (fun c => absurd c (by decide)) (fun _ => ?_)
                refine lv_aload_n hx hb dL_isRacked_332 rfl (lv_at hl 4 rfl) ?_
                refine lv_aload hx hb dL_isRacked_333 (lv_at hl 10 rfl) ?_
                refine lv_iconst (v := 0) hx hb dL_isRacked_335 (by decide) ?_
                refine zq_iald hx hb hK hP 24 0 rfl rfl (j := 0) (by decide) (by decide) dL_isRacked_336 ?_
                rw [hg0]
                refine zl_cWi (As := [.ref (a 0), .int (nI N)]) (rest := []) (wc := (wRo a cI cZ cD ki pl tu le ch ca (nI N) tk th hu od (nI M) ti be clk)) (wr := (wAr v cI cD lL lC lF lW lM lB lH lR lD lG)) ⟨hx, hb, hml, hown, hts⟩ (c_L_placeOf_bad l hl0 dC dI a cI cZ cD ki pl tu le ch ca N tk th hu od M ti be clk (by omega) (by omega) (nI N) (zw_top (by omega)) H.size) (vx_cwSW 2 hts gL_isRacked_L_placeOf rfl rfl rfl (by decide +kernel) ⟨Nat.le_of_ble_eq_true rfl, Nat.le_of_ble_eq_true rfl⟩) hK hP hD hS hA (hH.kept hS.2.1) hE [0, 1, 2, 3, 4, 5, 6, 7, 8, 9, 10, 11, 12, 13, 14] [15, 16, 17, 18, 19, 20, 21, 22, 23, 24] [10, 11, 12, 13, 14, 15, 16, 17, 18, 19, 20, 21, 22, 23, 24, 0, 1, 2, 3, 4, 5, 6, 7, 8, 9] rfl rfl rfl rfl (by decide) rfl rfl rfl hl.1 rfl (Nat.le_of_ble_eq_true rfl) dL_isRacked_337 ⟨Nat.le_of_ble_eq_true rfl, Nat.le_of_ble_eq_true rfl⟩ (fun H locs hP hD hS hG => ?_)
                refine lv_bipush (v := (-61)) hx hb dL_isRacked_340 (by decide) ?_
                refine lv_icmp_ne (tgt := 379) hx hb dL_isRacked_342 (by decide) (fun c => absurd c (by decide)) (fun _ => ?_)
                refine lv_aload_n hx hb dL_isRacked_345 rfl (lv_at hl 4 rfl) ?_
                refine lv_iconst (v := (-1)) hx hb dL_isRacked_346 (by decide) ?_
                refine zl_cWi (As := [.ref (a 0), .int (-1)]) (rest := []) (wc := (wRo a cI cZ cD ki pl tu le ch ca (nI N) tk th hu od (nI M) ti be clk)) (wr := (wAr v cI cD lL lC lF lW lM lB lH lR lD lG)) ⟨hx, hb, hml, hown, hts⟩ (c_L_placeOf_bad l hl0 dC dI a cI cZ cD ki pl tu le ch ca N tk th hu od M ti be clk (by omega) (by omega) (-1) (zw_m1) H.size) (vx_cwSW 2 hts gL_isRacked_L_placeOf rfl rfl rfl (by decide +kernel) ⟨Nat.le_of_ble_eq_true rfl, Nat.le_of_ble_eq_true rfl⟩) hK hP hD hS hA (hH.kept hS.2.1) hE [0, 1, 2, 3, 4, 5, 6, 7, 8, 9, 10, 11, 12, 13, 14] [15, 16, 17, 18, 19, 20, 21, 22, 23, 24] [10, 11, 12, 13, 14, 15, 16, 17, 18, 19, 20, 21, 22, 23, 24, 0, 1, 2, 3, 4, 5, 6, 7, 8, 9] rfl rfl rfl rfl (by decide) rfl rfl rfl hl.1 rfl (Nat.le_of_ble_eq_true rfl) dL_isRacked_347 ⟨Nat.le_of_ble_eq_true rfl, Nat.le_of_ble_eq_true rfl⟩ (fun H locs hP hD hS hG => ?_)
                refine lv_bipush (v := (-61)) hx hb dL_isRacked_350 (by decide) ?_
                refine lv_icmp_ne (tgt := 379) hx hb dL_isRacked_352 (by decide) (fun c => absurd c (by decide)) (fun _ => ?_)
                refine lv_aload_n hx hb dL_isRacked_355 rfl (lv_at hl 4 rfl) ?_
                refine lv_iconst (v := 3) hx hb dL_isRacked_356 (by decide) ?_
                refine zl_cWi (As := [.ref (a 0), .int 3]) (rest := []) (wc := (wRo a cI cZ cD ki pl tu le ch ca (nI N) tk th hu od (nI M) ti be clk)) (wr := (wAr v cI cD lL lC lF lW lM lB lH lR lD lG)) ⟨hx, hb, hml, hown, hts⟩ (c_L_ready_bad l hl0 dC dI a cI cZ cD ki pl tu le ch ca N tk th hu od M ti be clk (by omega) (by omega) 3 (by decide +kernel) H.size) (vx_cwSW 2 hts gL_isRacked_L_ready rfl rfl rfl (by decide +kernel) ⟨Nat.le_of_ble_eq_true rfl, Nat.le_of_ble_eq_true rfl⟩) hK hP hD hS hA (hH.kept hS.2.1) hE [0, 1, 2, 3, 4, 5, 6, 7, 8, 9, 10, 11, 12, 13, 14] [15, 16, 17, 18, 19, 20, 21, 22, 23, 24] [10, 11, 12, 13, 14, 15, 16, 17, 18, 19, 20, 21, 22, 23, 24, 0, 1, 2, 3, 4, 5, 6, 7, 8, 9] rfl rfl rfl rfl (by decide) rfl rfl rfl hl.1 rfl (Nat.le_of_ble_eq_true rfl) dL_isRacked_357 ⟨Nat.le_of_ble_eq_true rfl, Nat.le_of_ble_eq_true rfl⟩ (fun H locs hP hD hS hG => ?_)
                refine lv_bipush (v := (-62)) hx hb dL_isRacked_360 (by decide) ?_
                refine lv_icmp_ne (tgt := 379) hx hb dL_isRacked_362 (by decide) (fun c => absurd c (by decide)) (fun _ => ?_)
                refine lv_aload_n hx hb dL_isRacked_365 rfl (lv_at hl 4 rfl) ?_
                refine lv_iconst (v := (-1)) hx hb dL_isRacked_366 (by decide) ?_
                refine zl_cWi (As := [.ref (a 0), .int (-1)]) (rest := []) (wc := (wRo a cI cZ cD ki pl tu le ch ca (nI N) tk th hu od (nI M) ti be clk)) (wr := (wAr v cI cD lL lC lF lW lM lB lH lR lD lG)) ⟨hx, hb, hml, hown, hts⟩ (c_L_ready_bad l hl0 dC dI a cI cZ cD ki pl tu le ch ca N tk th hu od M ti be clk (by omega) (by omega) (-1) (by decide +kernel) H.size) (vx_cwSW 2 hts gL_isRacked_L_ready rfl rfl rfl (by decide +kernel) ⟨Nat.le_of_ble_eq_true rfl, Nat.le_of_ble_eq_true rfl⟩) hK hP hD hS hA (hH.kept hS.2.1) hE [0, 1, 2, 3, 4, 5, 6, 7, 8, 9, 10, 11, 12, 13, 14] [15, 16, 17, 18, 19, 20, 21, 22, 23, 24] [10, 11, 12, 13, 14, 15, 16, 17, 18, 19, 20, 21, 22, 23, 24, 0, 1, 2, 3, 4, 5, 6, 7, 8, 9] rfl rfl rfl rfl (by decide) rfl rfl rfl hl.1 rfl (Nat.le_of_ble_eq_true rfl) dL_isRacked_367 ⟨Nat.le_of_ble_eq_true rfl, Nat.le_of_ble_eq_true rfl⟩ (fun H locs hP hD hS hG => ?_)
                refine lv_bipush (v := (-62)) hx hb dL_isRacked_370 (by decide) ?_
                refine lv_icmp_ne (tgt := 379) hx hb dL_isRacked_372 (by decide) (fun c => absurd c (by decide)) (fun _ => ?_)
                refine lv_iconst (v := 1) hx hb dL_isRacked_375 (by decide) ?_
                refine lv_goto (tgt := 380) hx hb dL_isRacked_376 (by decide) ?_
                exact W.zret (v := 1) hx hb hr (by rfl) (zg_qi rfl hP hK hD hS hG) hS.2.2 dL_isRacked_380
            · have d_5 := Nat.not_le.mp (fun h => c_5 ((nI_leI (a := M) (b := j2) (by omega) (by omega)).mpr h))
              refine lv_aload_n hx hb dL_isRacked_219 rfl (lv_at hl 4 rfl) ?_
              refine lv_iload hx hb dL_isRacked_220 (lv_at hl 1 rfl) ?_
              refine zq_cVi (As := [.int (nI j2)]) (rest := []) (wc := (wRo a cI cZ cD ki pl tu le ch ca (nI N) tk th hu od (nI M) ti be clk)) (w1 := (wRo a cI cZ cD ki pl tu le ch ca (nI N) tk th hu od (nI M) ti be clk)) (wr := (wAr v cI cD lL lC lF lW lM lB lH lR lD lG)) (ws' := (wLw a v cI cZ cD ki pl tu le ch ca (nI N) tk th hu od (nI M) ti be clk lL lC lF lW lM lB lH lR lD lG)) ⟨hx, hb, hml, hown, hts⟩ (c_X3_lightLeft_off l dC dI a cI cZ cD ki pl tu le ch ca N tk th hu od M ti be clk (by omega) (by omega) j2 (by omega) (hth j2 (by omega)) H.size) (cwV 1 hts gL_isRacked_X3_lightLeft rfl rfl rfl (by decide +kernel) ⟨Nat.le_of_ble_eq_true rfl, Nat.le_of_ble_eq_true rfl⟩) hK hP hD hS hA [0, 1, 2, 3, 4, 5, 6, 7, 8, 9, 10, 11, 12, 13, 14] [15, 16, 17, 18, 19, 20, 21, 22, 23, 24] [10, 11, 12, 13, 14, 15, 16, 17, 18, 19, 20, 21, 22, 23, 24, 0, 1, 2, 3, 4, 5, 6, 7, 8, 9] rfl rfl rfl rfl (by decide) rfl rfl (ci := 3) rfl 0 rfl rfl hl.1 rfl (Nat.le_of_ble_eq_true rfl) dL_isRacked_222 ⟨Nat.le_of_ble_eq_true rfl, Nat.le_of_ble_eq_true rfl⟩ (fun H locs hP hD hS => ?_)
              refine lv_aload hx hb dL_isRacked_225 (lv_at hl 9 rfl) ?_
              refine lv_iload hx hb dL_isRacked_227 (lv_at hl 1 rfl) ?_
              refine zq_iald hx hb hK hP 19 0 rfl rfl (j := j2) (by omega) (by decide) dL_isRacked_229 ?_
              rw [hm0 j2 (by omega)]
              refine lv_if_ne (tgt := 237) hx hb dL_isRacked_230 (by decide) (fun c => absurd c (by decide)) (fun _ => ?_)
              refine lv_iconst (v := (-1)) hx hb dL_isRacked_233 (by decide) ?_
              refine lv_goto (tgt := 247) hx hb dL_isRacked_234 (by decide) ?_
              refine lv_icmp_eq (tgt := 252) hx hb dL_isRacked_247 (by decide) (fun _ => ?_) (fun c => absurd c (by decide))
              refine lv_iload hx hb dL_isRacked_252 (lv_at hl 0 rfl) ?_
              refine lv_aload hx hb dL_isRacked_254 (lv_at hl 9 rfl) ?_
              refine lv_iload hx hb dL_isRacked_256 (lv_at hl 1 rfl) ?_
              refine zq_iald hx hb hK hP 19 0 rfl rfl (j := j2) (by omega) (by decide) dL_isRacked_258 ?_
              rw [hm0 j2 (by omega)]
              refine lv_if_le (tgt := 285) hx hb dL_isRacked_259 (by decide) (fun _ => ?_) (fun c => absurd c (by decide))
              refine lv_iconst (v := 0) hx hb dL_isRacked_285 (by decide) ?_
              refine t_iadd hx hb dL_isRacked_286 (v := 0) (zq_add0 _) ?_
              refine lv_istore (lv' := [(11, .int 0), (12, .int (nI j2)), (7, .double (zh N)), (9, .double (zh N)), (0, .ref (a 0)), (1, .ref (v 1)), (2, .ref (v 2)), (3, .ref (v 3)), (4, .ref (v 4)), (5, .ref (v 5)), (6, .ref (v 10))]) hx hb dL_isRacked_287 hl (by decide) rfl (fun ls hl => ?_)
              refine lv_iinc (v := nI (j2 + 1)) (lv' := [(12, .int (nI (j2 + 1))), (11, .int 0), (7, .double (zh N)), (9, .double (zh N)), (0, .ref (a 0)), (1, .ref (v 1)), (2, .ref (v 2)), (3, .ref (v 3)), (4, .ref (v 4)), (5, .ref (v 5)), (6, .ref (v 10))]) hx hb dL_isRacked_289 hl (k := 1) rfl (nI_add _ 1) (by decide) rfl (fun ls hl => ?_)
              refine lv_goto (tgt := 210) hx hb dL_isRacked_292 (by decide) ?_
              exact ih_j2 _ _ _ (by omega) ⟨hP, hD, hS, lv_sub hl [1, 0, 2, 3, 4, 5, 6, 7, 8, 9, 10] rfl⟩
          · have d_4 := (fun h => c_4 ((nI_eq (a := N) (b := k2) (by omega) (by omega)).mpr h) : ¬ N = k2)
            exact absurd (by omega) d_4
        · have d_3 := Nat.not_le.mp (fun h => c_3 ((nI_leI (a := N) (b := k2) (by omega) (by omega)).mpr h))
          refine lv_iload hx hb dL_isRacked_146 (lv_at hl 0 rfl) ?_
          refine lv_aload_n hx hb dL_isRacked_148 rfl (lv_at hl 6 rfl) ?_
          refine lv_iload hx hb dL_isRacked_149 (lv_at hl 1 rfl) ?_
          refine zq_iald hx hb hK hP 15 0 rfl rfl (j := k2) (by omega) (by decide) dL_isRacked_151 ?_
          rw [hlL k2 (by omega)]
          refine lv_bipush (v := 15) hx hb dL_isRacked_152 (by decide) ?_
          refine lv_iand hx hb dL_isRacked_154 ?_
          rw [show (2 : Int32) &&& (15 : Int32) = (2 : Int32) by decide +kernel]
          refine lv_iload hx hb dL_isRacked_155 (lv_at hl 2 rfl) ?_
          refine lv_icmp_ne (tgt := 175) hx hb dL_isRacked_157 (by decide) (fun c => absurd c (by decide)) (fun _ => ?_)
          refine lv_aload_n hx hb dL_isRacked_160 rfl (lv_at hl 7 rfl) ?_
          refine lv_iload hx hb dL_isRacked_161 (lv_at hl 1 rfl) ?_
          refine zq_dald hx hb hK hP 16 2 rfl rfl (j := k2) (by omega) (by decide) dL_isRacked_163 ?_
          rw [hlC k2 (by omega)]
          refine lv_ldc2d hx hb hown hc_60 dL_isRacked_164 ?_
          refine lv_dcmp hx hb dL_isRacked_167 ?_
          rw [hd9]
          refine lv_if_lt (tgt := 175) hx hb dL_isRacked_168 (by decide) (fun c => absurd c (by decide)) (fun _ => ?_)
          refine lv_iconst (v := 1) hx hb dL_isRacked_171 (by decide) ?_
          refine lv_goto (tgt := 176) hx hb dL_isRacked_172 (by decide) ?_
          refine t_iadd hx hb dL_isRacked_176 (v := nI (k2 + 1)) (nI_1 _) ?_
          refine lv_istore (lv' := [(12, .int (nI (k2 + 1))), (13, .int (nI k2)), (11, .int 2), (7, .double (zh N)), (9, .double (zh N)), (0, .ref (a 0)), (1, .ref (v 1)), (2, .ref (v 2)), (3, .ref (v 3)), (4, .ref (v 4)), (5, .ref (v 5)), (6, .ref (v 10))]) hx hb dL_isRacked_177 hl (by decide) rfl (fun ls hl => ?_)
          refine lv_iinc (v := nI (k2 + 1)) (lv' := [(13, .int (nI (k2 + 1))), (12, .int (nI (k2 + 1))), (11, .int 2), (7, .double (zh N)), (9, .double (zh N)), (0, .ref (a 0)), (1, .ref (v 1)), (2, .ref (v 2)), (3, .ref (v 3)), (4, .ref (v 4)), (5, .ref (v 5)), (6, .ref (v 10))]) hx hb dL_isRacked_179 hl (k := 1) rfl (nI_add _ 1) (by decide) rfl (fun ls hl => ?_)
          refine lv_goto (tgt := 137) hx hb dL_isRacked_182 (by decide) ?_
          exact ih_k2 _ _ _ (by omega) ⟨hP, hD, hS, lv_sub hl [1, 0, 2, 3, 4, 5, 6, 7, 8, 9, 10, 11] rfl⟩
      · have d_2 := Nat.not_le.mp (fun h => c_2 ((nI_leI (a := N) (b := k1) (by omega) (by omega)).mpr h))
        refine lv_iload hx hb dL_isRacked_146 (lv_at hl 0 rfl) ?_
        refine lv_aload_n hx hb dL_isRacked_148 rfl (lv_at hl 6 rfl) ?_
        refine lv_iload hx hb dL_isRacked_149 (lv_at hl 1 rfl) ?_
        refine zq_iald hx hb hK hP 15 0 rfl rfl (j := k1) (by omega) (by decide) dL_isRacked_151 ?_
        rw [hlL k1 (by omega)]
        refine lv_bipush (v := 15) hx hb dL_isRacked_152 (by decide) ?_
        refine lv_iand hx hb dL_isRacked_154 ?_
        rw [show (2 : Int32) &&& (15 : Int32) = (2 : Int32) by decide +kernel]
        refine lv_iload hx hb dL_isRacked_155 (lv_at hl 2 rfl) ?_
        refine lv_icmp_ne (tgt := 175) hx hb dL_isRacked_157 (by decide) (fun _ => ?_) (fun c => absurd c (by decide))
        refine lv_iconst (v := 0) hx hb dL_isRacked_175 (by decide) ?_
        refine t_iadd hx hb dL_isRacked_176 (v := 0) (zq_add0 _) ?_
        refine lv_istore (lv' := [(12, .int 0), (13, .int (nI k1)), (11, .int 1), (7, .double (zh N)), (9, .double (zh N)), (0, .ref (a 0)), (1, .ref (v 1)), (2, .ref (v 2)), (3, .ref (v 3)), (4, .ref (v 4)), (5, .ref (v 5)), (6, .ref (v 10))]) hx hb dL_isRacked_177 hl (by decide) rfl (fun ls hl => ?_)
        refine lv_iinc (v := nI (k1 + 1)) (lv' := [(13, .int (nI (k1 + 1))), (12, .int 0), (11, .int 1), (7, .double (zh N)), (9, .double (zh N)), (0, .ref (a 0)), (1, .ref (v 1)), (2, .ref (v 2)), (3, .ref (v 3)), (4, .ref (v 4)), (5, .ref (v 5)), (6, .ref (v 10))]) hx hb dL_isRacked_179 hl (k := 1) rfl (nI_add _ 1) (by decide) rfl (fun ls hl => ?_)
        refine lv_goto (tgt := 137) hx hb dL_isRacked_182 (by decide) ?_
        exact ih_k1 _ _ _ (by omega) ⟨hP, hD, hS, lv_sub hl [1, 0, 2, 3, 4, 5, 6, 7, 8, 9, 10, 11] rfl⟩
    · have d_1 := Nat.not_le.mp (fun h => c_1 ((nI_leI (a := N) (b := k0) (by omega) (by omega)).mpr h))
      refine lv_iload hx hb dL_isRacked_146 (lv_at hl 0 rfl) ?_
      refine lv_aload_n hx hb dL_isRacked_148 rfl (lv_at hl 6 rfl) ?_
      refine lv_iload hx hb dL_isRacked_149 (lv_at hl 1 rfl) ?_
      refine zq_iald hx hb hK hP 15 0 rfl rfl (j := k0) (by omega) (by decide) dL_isRacked_151 ?_
      rw [hlL k0 (by omega)]
      refine lv_bipush (v := 15) hx hb dL_isRacked_152 (by decide) ?_
      refine lv_iand hx hb dL_isRacked_154 ?_
      rw [show (2 : Int32) &&& (15 : Int32) = (2 : Int32) by decide +kernel]
      refine lv_iload hx hb dL_isRacked_155 (lv_at hl 2 rfl) ?_
      refine lv_icmp_ne (tgt := 175) hx hb dL_isRacked_157 (by decide) (fun _ => ?_) (fun c => absurd c (by decide))
      refine lv_iconst (v := 0) hx hb dL_isRacked_175 (by decide) ?_
      refine t_iadd hx hb dL_isRacked_176 (v := 0) (zq_add0 _) ?_
      refine lv_istore (lv' := [(12, .int 0), (13, .int (nI k0)), (11, .int 0), (7, .double (zh N)), (9, .double (zh N)), (0, .ref (a 0)), (1, .ref (v 1)), (2, .ref (v 2)), (3, .ref (v 3)), (4, .ref (v 4)), (5, .ref (v 5)), (6, .ref (v 10))]) hx hb dL_isRacked_177 hl (by decide) rfl (fun ls hl => ?_)
      refine lv_iinc (v := nI (k0 + 1)) (lv' := [(13, .int (nI (k0 + 1))), (12, .int 0), (11, .int 0), (7, .double (zh N)), (9, .double (zh N)), (0, .ref (a 0)), (1, .ref (v 1)), (2, .ref (v 2)), (3, .ref (v 3)), (4, .ref (v 4)), (5, .ref (v 5)), (6, .ref (v 10))]) hx hb dL_isRacked_179 hl (k := 1) rfl (nI_add _ 1) (by decide) rfl (fun ls hl => ?_)
      refine lv_goto (tgt := 137) hx hb dL_isRacked_182 (by decide) ?_
      exact ih_k0 _ _ _ (by omega) ⟨hP, hD, hS, lv_sub hl [1, 0, 2, 3, 4, 5, 6, 7, 8, 9, 10, 11] rfl⟩
  · have d_0 := Nat.not_le.mp (fun h => c_0 ((nI_leI (a := N) (b := i) (by omega) (by omega)).mpr h))
    refine lv_aload_n hx hb dL_isRacked_18 rfl (lv_at hl 3 rfl) ?_
    refine lv_iload hx hb dL_isRacked_19 (lv_at hl 0 rfl) ?_
    refine zq_cVi (As := [.int (nI i)]) (rest := []) (wc := (wRo a cI cZ cD ki pl tu le ch ca (nI N) tk th hu od (nI M) ti be clk)) (w1 := (wRo a cI cZ cD ki pl tu le ch ca (nI N) tk th hu od (nI M) ti be clk)) (wr := (wAr v cI cD lL lC lF lW lM lB lH lR lD lG)) (ws' := (wLw a v cI cZ cD ki pl tu le ch ca (nI N) tk th hu od (nI M) ti be clk lL lC lF lW lM lB lH lR lD lG)) ⟨hx, hb, hml, hown, hts⟩ (c_X3_placeOf_ok l dC dI a cI cZ cD ki pl tu le ch ca N tk th hu od M ti be clk (by omega) (by omega) i (by omega) H.size) (cwV 1 hts gL_isRacked_X3_placeOf rfl rfl rfl (by decide +kernel) ⟨Nat.le_of_ble_eq_true rfl, Nat.le_of_ble_eq_true rfl⟩) hK hP hD hS hA [0, 1, 2, 3, 4, 5, 6, 7, 8, 9, 10, 11, 12, 13, 14] [15, 16, 17, 18, 19, 20, 21, 22, 23, 24] [10, 11, 12, 13, 14, 15, 16, 17, 18, 19, 20, 21, 22, 23, 24, 0, 1, 2, 3, 4, 5, 6, 7, 8, 9] rfl rfl rfl rfl (by decide) rfl rfl (ci := 3) rfl 0 rfl rfl hl.1 rfl (Nat.le_of_ble_eq_true rfl) dL_isRacked_21 ⟨Nat.le_of_ble_eq_true rfl, Nat.le_of_ble_eq_true rfl⟩ (fun H locs hP hD hS => ?_)
    rw [hpl i (by omega)]
    refine lv_aload_n hx hb dL_isRacked_24 rfl (lv_at hl 4 rfl) ?_
    refine lv_iload hx hb dL_isRacked_25 (lv_at hl 0 rfl) ?_
    refine zq_iald hx hb hK hP 15 0 rfl rfl (j := i) (by omega) (by decide) dL_isRacked_27 ?_
    rw [hlL i (by omega)]
    refine lv_iconst (v := 2) hx hb dL_isRacked_28 (by decide) ?_
    refine lv_ishr hx hb dL_isRacked_29 ?_
    rw [show (2 : Int32) >>> ((2 : Int32) &&& (31 : Int32)) = (0 : Int32) by decide +kernel]
    refine lv_iconst (v := 3) hx hb dL_isRacked_30 (by decide) ?_
    refine lv_iand hx hb dL_isRacked_31 ?_
    rw [show (0 : Int32) &&& (3 : Int32) = (0 : Int32) by decide +kernel]
    refine lv_icmp_ne (tgt := 82) hx hb dL_isRacked_32 (by decide) (fun c => absurd c (by decide)) (fun _ => ?_)
    refine lv_aload_n hx hb dL_isRacked_35 rfl (lv_at hl 3 rfl) ?_
    refine lv_iload hx hb dL_isRacked_36 (lv_at hl 0 rfl) ?_
    refine zq_cVi (As := [.int (nI i)]) (rest := []) (wc := (wRo a cI cZ cD ki pl tu le ch ca (nI N) tk th hu od (nI M) ti be clk)) (w1 := (wRo a cI cZ cD ki pl tu le ch ca (nI N) tk th hu od (nI M) ti be clk)) (wr := (wAr v cI cD lL lC lF lW lM lB lH lR lD lG)) (ws' := (wLw a v cI cZ cD ki pl tu le ch ca (nI N) tk th hu od (nI M) ti be clk lL lC lF lW lM lB lH lR lD lG)) ⟨hx, hb, hml, hown, hts⟩ (c_X3_turnsOf_ok l dC dI a cI cZ cD ki pl tu le ch ca N tk th hu od M ti be clk (by omega) (by omega) i (by omega) H.size) (cwV 1 hts gL_isRacked_X3_turnsOf rfl rfl rfl (by decide +kernel) ⟨Nat.le_of_ble_eq_true rfl, Nat.le_of_ble_eq_true rfl⟩) hK hP hD hS hA [0, 1, 2, 3, 4, 5, 6, 7, 8, 9, 10, 11, 12, 13, 14] [15, 16, 17, 18, 19, 20, 21, 22, 23, 24] [10, 11, 12, 13, 14, 15, 16, 17, 18, 19, 20, 21, 22, 23, 24, 0, 1, 2, 3, 4, 5, 6, 7, 8, 9] rfl rfl rfl rfl (by decide) rfl rfl (ci := 3) rfl 0 rfl rfl hl.1 rfl (Nat.le_of_ble_eq_true rfl) dL_isRacked_38 ⟨Nat.le_of_ble_eq_true rfl, Nat.le_of_ble_eq_true rfl⟩ (fun H locs hP hD hS => ?_)
    rw [htu i (by omega)]
    refine lv_aload_n hx hb dL_isRacked_41 rfl (lv_at hl 4 rfl) ?_
    refine lv_iload hx hb dL_isRacked_42 (lv_at hl 0 rfl) ?_
    refine zq_iald hx hb hK hP 15 0 rfl rfl (j := i) (by omega) (by decide) dL_isRacked_44 ?_
    rw [hlL i (by omega)]
    refine lv_iconst (v := 4) hx hb dL_isRacked_45 (by decide) ?_
    refine lv_ishr hx hb dL_isRacked_46 ?_
    rw [show (2 : Int32) >>> ((4 : Int32) &&& (31 : Int32)) = (0 : Int32) by decide +kernel]
    refine lv_sipush (v := 255) hx hb dL_isRacked_47 (by decide) ?_
    refine lv_iand hx hb dL_isRacked_50 ?_
    rw [show (0 : Int32) &&& (255 : Int32) = (0 : Int32) by decide +kernel]
    refine lv_icmp_ne (tgt := 82) hx hb dL_isRacked_51 (by decide) (fun c => absurd c (by decide)) (fun _ => ?_)
    refine lv_aload_n hx hb dL_isRacked_54 rfl (lv_at hl 3 rfl) ?_
    refine lv_iload hx hb dL_isRacked_55 (lv_at hl 0 rfl) ?_
    refine zq_cVd (As := [.int (nI i)]) (rest := []) (wc := (wRo a cI cZ cD ki pl tu le ch ca (nI N) tk th hu od (nI M) ti be clk)) (w1 := (wRo a cI cZ cD ki pl tu le ch ca (nI N) tk th hu od (nI M) ti be clk)) (wr := (wAr v cI cD lL lC lF lW lM lB lH lR lD lG)) (ws' := (wLw a v cI cZ cD ki pl tu le ch ca (nI N) tk th hu od (nI M) ti be clk lL lC lF lW lM lB lH lR lD lG)) ⟨hx, hb, hml, hown, hts⟩ (c_X3_chargeOf_ok l dC dI a cI cZ cD ki pl tu le ch ca N tk th hu od M ti be clk (by omega) (by omega) i (by omega) H.size) (cwV 1 hts gL_isRacked_X3_chargeOf rfl rfl rfl (by decide +kernel) ⟨Nat.le_of_ble_eq_true rfl, Nat.le_of_ble_eq_true rfl⟩) hK hP hD hS hA [0, 1, 2, 3, 4, 5, 6, 7, 8, 9, 10, 11, 12, 13, 14] [15, 16, 17, 18, 19, 20, 21, 22, 23, 24] [10, 11, 12, 13, 14, 15, 16, 17, 18, 19, 20, 21, 22, 23, 24, 0, 1, 2, 3, 4, 5, 6, 7, 8, 9] rfl rfl rfl rfl (by decide) rfl rfl (ci := 3) rfl 0 rfl rfl hl.1 rfl (Nat.le_of_ble_eq_true rfl) dL_isRacked_57 ⟨Nat.le_of_ble_eq_true rfl, Nat.le_of_ble_eq_true rfl⟩ (fun H locs hP hD hS => ?_)
    rw [hch i (by omega)]
    refine lv_aload_n hx hb dL_isRacked_60 rfl (lv_at hl 5 rfl) ?_
    refine lv_iload hx hb dL_isRacked_61 (lv_at hl 0 rfl) ?_
    refine zq_dald hx hb hK hP 16 2 rfl rfl (j := i) (by omega) (by decide) dL_isRacked_63 ?_
    rw [hlC i (by omega)]
    refine lv_dcmp hx hb dL_isRacked_64 ?_
    rw [hdc]
    refine lv_if_ne (tgt := 82) hx hb dL_isRacked_65 (by decide) (fun c => absurd c (by decide)) (fun _ => ?_)
    refine lv_aload_n hx hb dL_isRacked_68 rfl (lv_at hl 3 rfl) ?_
    refine lv_iload hx hb dL_isRacked_69 (lv_at hl 0 rfl) ?_
    refine zq_cVd (As := [.int (nI i)]) (rest := []) (wc := (wRo a cI cZ cD ki pl tu le ch ca (nI N) tk th hu od (nI M) ti be clk)) (w1 := (wRo a cI cZ cD ki pl tu le ch ca (nI N) tk th hu od (nI M) ti be clk)) (wr := (wAr v cI cD lL lC lF lW lM lB lH lR lD lG)) (ws' := (wLw a v cI cZ cD ki pl tu le ch ca (nI N) tk th hu od (nI M) ti be clk lL lC lF lW lM lB lH lR lD lG)) ⟨hx, hb, hml, hown, hts⟩ (c_X3_capacityOf_ok l dC dI a cI cZ cD ki pl tu le ch ca N tk th hu od M ti be clk (by omega) (by omega) i (by omega) H.size) (cwV 1 hts gL_isRacked_X3_capacityOf rfl rfl rfl (by decide +kernel) ⟨Nat.le_of_ble_eq_true rfl, Nat.le_of_ble_eq_true rfl⟩) hK hP hD hS hA [0, 1, 2, 3, 4, 5, 6, 7, 8, 9, 10, 11, 12, 13, 14] [15, 16, 17, 18, 19, 20, 21, 22, 23, 24] [10, 11, 12, 13, 14, 15, 16, 17, 18, 19, 20, 21, 22, 23, 24, 0, 1, 2, 3, 4, 5, 6, 7, 8, 9] rfl rfl rfl rfl (by decide) rfl rfl (ci := 3) rfl 0 rfl rfl hl.1 rfl (Nat.le_of_ble_eq_true rfl) dL_isRacked_71 ⟨Nat.le_of_ble_eq_true rfl, Nat.le_of_ble_eq_true rfl⟩ (fun H locs hP hD hS => ?_)
    rw [hca i (by omega)]
    refine lv_aload_n hx hb dL_isRacked_74 rfl (lv_at hl 6 rfl) ?_
    refine lv_iload hx hb dL_isRacked_75 (lv_at hl 0 rfl) ?_
    refine zq_dald hx hb hK hP 17 2 rfl rfl (j := i) (by omega) (by decide) dL_isRacked_77 ?_
    rw [hlF i (by omega)]
    refine lv_dcmp hx hb dL_isRacked_78 ?_
    rw [hdc]
    refine lv_if_eq (tgt := 84) hx hb dL_isRacked_79 (by decide) (fun _ => ?_) (fun c => absurd c (by decide))
    refine lv_aload_n hx hb dL_isRacked_84 rfl (lv_at hl 4 rfl) ?_
    refine lv_iload hx hb dL_isRacked_85 (lv_at hl 0 rfl) ?_
    refine zq_iald hx hb hK hP 15 0 rfl rfl (j := i) (by omega) (by decide) dL_isRacked_87 ?_
    rw [hlL i (by omega)]
    refine lv_iconst (v := 2) hx hb dL_isRacked_88 (by decide) ?_
    refine lv_ishr hx hb dL_isRacked_89 ?_
    rw [show (2 : Int32) >>> ((2 : Int32) &&& (31 : Int32)) = (0 : Int32) by decide +kernel]
    refine lv_iconst (v := 3) hx hb dL_isRacked_90 (by decide) ?_
    refine lv_iand hx hb dL_isRacked_91 ?_
    rw [show (0 : Int32) &&& (3 : Int32) = (0 : Int32) by decide +kernel]
    refine lv_if_le (tgt := 98) hx hb dL_isRacked_92 (by decide) (fun _ => ?_) (fun c => absurd c (by decide))
    refine lv_dload hx hb dL_isRacked_98 (lv_at hl 1 rfl) ?_
    refine lv_aload_n hx hb dL_isRacked_100 rfl (lv_at hl 5 rfl) ?_
    refine lv_iload hx hb dL_isRacked_101 (lv_at hl 0 rfl) ?_
    refine zq_dald hx hb hK hP 16 2 rfl rfl (j := i) (by omega) (by decide) dL_isRacked_103 ?_
    rw [hlC i (by omega)]
    refine lv_dadd hx hb dL_isRacked_104 (zn_sum_n (pl := fun _ => 0) (f := fun _ => 4626322717216342016) (n := 40) (fun _ _ => zw_B20) (by omega) (show i < 40 by omega)) ?_
    refine lv_dstore (lv' := [(7, .double (FP.dadd (zh i) 4626322717216342016)), (11, .int (nI i)), (9, .double (zh i)), (0, .ref (a 0)), (1, .ref (v 1)), (2, .ref (v 2)), (3, .ref (v 3)), (4, .ref (v 4)), (5, .ref (v 5)), (6, .ref (v 10))]) hx hb dL_isRacked_105 hl (by decide) rfl (fun ls hl => ?_)
    refine lv_dload hx hb dL_isRacked_107 (lv_at hl 2 rfl) ?_
    refine lv_aload_n hx hb dL_isRacked_109 rfl (lv_at hl 6 rfl) ?_
    refine lv_iload hx hb dL_isRacked_110 (lv_at hl 1 rfl) ?_
    refine zq_dald hx hb hK hP 17 2 rfl rfl (j := i) (by omega) (by decide) dL_isRacked_112 ?_
    rw [hlF i (by omega)]
    refine lv_dadd hx hb dL_isRacked_113 (zn_sum_n (pl := fun _ => 0) (f := fun _ => 4626322717216342016) (n := 40) (fun _ _ => zw_B20) (by omega) (show i < 40 by omega)) ?_
    refine lv_dstore (lv' := [(9, .double (FP.dadd (zh i) 4626322717216342016)), (7, .double (FP.dadd (zh i) 4626322717216342016)), (11, .int (nI i)), (0, .ref (a 0)), (1, .ref (v 1)), (2, .ref (v 2)), (3, .ref (v 3)), (4, .ref (v 4)), (5, .ref (v 5)), (6, .ref (v 10))]) hx hb dL_isRacked_114 hl (by decide) rfl (fun ls hl => ?_)
    refine lv_iinc (v := nI (i + 1)) (lv' := [(11, .int (nI (i + 1))), (9, .double (FP.dadd (zh i) 4626322717216342016)), (7, .double (FP.dadd (zh i) 4626322717216342016)), (0, .ref (a 0)), (1, .ref (v 1)), (2, .ref (v 2)), (3, .ref (v 3)), (4, .ref (v 4)), (5, .ref (v 5)), (6, .ref (v 10))]) hx hb dL_isRacked_116 hl (k := 2) rfl (nI_add _ 1) (by decide) rfl (fun ls hl => ?_)
    refine lv_goto (tgt := 9) hx hb dL_isRacked_119 (by decide) ?_
    have e_8 : (zh (i + 1)) = (FP.dadd (zh i) 4626322717216342016) := by rw [zh_s]
    have e_9 : (zh (i + 1)) = (FP.dadd (zh i) 4626322717216342016) := by rw [zh_s]
    exact ih_i _ _ _ (by omega) ⟨(by (try rw [e_8]); (try rw [e_9]); exact hP), (by (try rw [e_8]); (try rw [e_9]); exact hD), hS, (by (try rw [e_8]); (try rw [e_9]); exact lv_sub hl [0, 2, 1, 3, 4, 5, 6, 7, 8, 9] rfl)⟩
end
section
set_option maxHeartbeats 8000000 in
set_option maxRecDepth 100000 in
theorem c_L_keeps_lamp (l : Launch) (hl0 : l.stackTraces = false) (dC : Nat → ClassId) (dI : Nat → Nat → Nat) (a : Nat → Nat) (cI cZ cD : ClassId) (ki pl tu le : Nat → Int32) (ch ca : Nat → UInt64) (N : Nat) (tk th hu od : Nat → Int32) (M : Nat) (ti : Int32) (be : Nat → Int32) (clk : Int32) (hN : N ≤ 40) (hM : M ≤ 30) (v : Nat → Nat) (lL : Nat → Int32) (lC lF : Nat → UInt64) (lW lM lB lH lR lD lG : Nat → Int32) (hg0 : lG 0 = nI N) (hg1 : lG 1 = nI M) (hN5 : N < 40) (sz : Nat) : zg_M l yL_keeps wsL_keeps ({ frames := 9, cells := 1, slots := 6, locals := 154 } : Room) (dC, dI) (zq_T cI cZ cD) [.ref (a 0), .int 0, .int 10, .ref (v 1), .ref (v 2), .ref (v 3), .ref (v 4), .ref (v 5), .ref (v 6), .ref (v 7), .ref (v 8), .ref (v 9), .ref (v 10)] (wLw a v cI cZ cD ki pl tu le ch ca (nI N) tk th hu od (nI M) ti be clk lL lC lF lW lM lB lH lR lD lG) 1 (wLw a v cI cZ cD (upd ki N 2) (upd pl N 0) tu le (vf_upd ch N (la_new 2)) (vf_upd ca N (la_new 2)) (nI (N + 1)) tk th hu od (nI M) ti be clk (upd lL N 2) (vf_upd lC N 4626322717216342016) (vf_upd lF N 4626322717216342016) lW lM lB lH lR lD (upd lG 0 (nI (N + 1)))) sz 1 6 := by
  refine Met.ofW (cc := cL_keeps) (maxL := 23) (ret := (some .boolean)) (by decide) rfl ?_
  intro p e s m args below meth c s₁ B hml hv
  obtain ⟨rfl, ⟨hsz, hP, hK, hD0⟩, hH, hE⟩ := hv
  have hx := B.exec
  have hb := B.bytes
  have hr := B.returns
  have hts := atoms_spec (ws := wsL_keeps) B.pre
  have hown : s.vm.findClass RL = some m.cls := findClass_of_methodNamed B.named
  have hlocks := B.notSynchronized
  subst hsz
  have hD := hD0.self (sz := s.heap.size)
  generalize hAe : va_A (wLw a v cI cZ cD ki pl tu le ch ca (nI N) tk th hu od (nI M) ti be clk lL lC lF lW lM lB lH lR lD lG) s.heap.size = A at hD hH ⊢
  have hA : ∀ q : Nat, s.heap.size ≤ q → A q := fun q h => by rw [← hAe]; exact Or.inr h
  have hS : va_S A s.heap s.heap [] := va_S.rf
  have hP : va_P (dC, dI) vwCl (wLw a v cI cZ cD ki pl tu le ch ca (nI N) tk th hu od (nI M) ti be clk lL lC lF lW lM lB lH lR lD lG) s.heap := hP
  have hl := lv_entry ([.ref (a 0), .int 0, .int 10, .ref (v 1), .ref (v 2), .ref (v 3), .ref (v 4), .ref (v 5), .ref (v 6), .ref (v 7), .ref (v 8), .ref (v 9), .ref (v 10)]) (n := 23) (Nat.le_of_ble_eq_true rfl)
  rw [lg_entry_eq]
  generalize (lg_sl ([.ref (a 0), .int 0, .int 10, .ref (v 1), .ref (v 2), .ref (v 3), .ref (v 4), .ref (v 5), .ref (v 6), .ref (v 7), .ref (v 8), .ref (v 9), .ref (v 10)]) ++ List.replicate (23 - (lg_sl ([.ref (a 0), .int 0, .int 10, .ref (v 1), .ref (v 2), .ref (v 3), .ref (v 4), .ref (v 5), .ref (v 6), .ref (v 7), .ref (v 8), .ref (v 9), .ref (v 10)])).length) Slot.unset).toArray = ls at hl ⊢
  have hl : lv_has ls 23 [(0, .ref (a 0)), (1, .int 0), (2, .int 10), (3, .ref (v 1)), (4, .ref (v 2)), (5, .ref (v 3)), (6, .ref (v 4)), (7, .ref (v 5)), (8, .ref (v 6)), (9, .ref (v 7)), (10, .ref (v 8)), (11, .ref (v 9)), (12, .ref (v 10))] := hl
  refine lv_iload_n hx hb dL_keeps_0 rfl (lv_at hl 2 rfl) ?_
  refine lv_aload hx hb dL_keeps_1 (lv_at hl 12 rfl) ?_
  refine lv_iconst (v := 0) hx hb dL_keeps_3 (by decide) ?_
  refine zq_iald hx hb hK hP 24 0 rfl rfl (j := 0) (by decide) (by decide) dL_keeps_4 ?_
  rw [hg0]
  refine lv_iconst (v := 1) hx hb dL_keeps_5 (by decide) ?_
  refine t_iadd hx hb dL_keeps_6 (v := nI (N + 1)) (nI_1 _) ?_
  refine zq_cSi (As := [.int 10, .int (nI (N + 1))]) (rest := []) ⟨hx, hb, hml, hown, hts⟩ (c_L_low l 10 (nI (N + 1)) (nI_ne0 (by omega) (by omega))) (va_cwS 2 hts gL_keeps_L_low rfl rfl rfl (by decide +kernel) ⟨Nat.le_of_ble_eq_true rfl, Nat.le_of_ble_eq_true rfl⟩) hP hS rfl hl.1 rfl (Nat.le_of_ble_eq_true rfl) dL_keeps_7 ⟨Nat.le_of_ble_eq_true rfl, Nat.le_of_ble_eq_true rfl⟩ (fun H locs hP hS => ?_)
  refine lv_istore (lv' := [(13, .int (zlow 10 (nI (N + 1)))), (0, .ref (a 0)), (1, .int 0), (2, .int 10), (3, .ref (v 1)), (4, .ref (v 2)), (5, .ref (v 3)), (6, .ref (v 4)), (7, .ref (v 5)), (8, .ref (v 6)), (9, .ref (v 7)), (10, .ref (v 8)), (11, .ref (v 9)), (12, .ref (v 10))]) hx hb dL_keeps_10 hl (by decide) rfl (fun ls hl => ?_)
  refine lv_iload_n hx hb dL_keeps_12 rfl (lv_at hl 3 rfl) ?_
  refine lv_aload hx hb dL_keeps_13 (lv_at hl 13 rfl) ?_
  refine lv_iconst (v := 1) hx hb dL_keeps_15 (by decide) ?_
  refine zq_iald hx hb hK hP 24 0 rfl rfl (j := 1) (by decide) (by decide) dL_keeps_16 ?_
  rw [hg1]
  refine lv_iconst (v := 1) hx hb dL_keeps_17 (by decide) ?_
  refine t_iadd hx hb dL_keeps_18 (v := nI (M + 1)) (nI_1 _) ?_
  refine zq_cSi (As := [.int 10, .int (nI (M + 1))]) (rest := []) ⟨hx, hb, hml, hown, hts⟩ (c_L_low l 10 (nI (M + 1)) (nI_ne0 (by omega) (by omega))) (va_cwS 2 hts gL_keeps_L_low rfl rfl rfl (by decide +kernel) ⟨Nat.le_of_ble_eq_true rfl, Nat.le_of_ble_eq_true rfl⟩) hP hS rfl hl.1 rfl (Nat.le_of_ble_eq_true rfl) dL_keeps_19 ⟨Nat.le_of_ble_eq_true rfl, Nat.le_of_ble_eq_true rfl⟩ (fun H locs hP hS => ?_)
  refine lv_istore (lv' := [(14, .int (zlow 10 (nI (M + 1)))), (13, .int (zlow 10 (nI (N + 1)))), (0, .ref (a 0)), (1, .int 0), (2, .int 10), (3, .ref (v 1)), (4, .ref (v 2)), (5, .ref (v 3)), (6, .ref (v 4)), (7, .ref (v 5)), (8, .ref (v 6)), (9, .ref (v 7)), (10, .ref (v 8)), (11, .ref (v 9)), (12, .ref (v 10))]) hx hb dL_keeps_22 hl (by decide) rfl (fun ls hl => ?_)
  refine lv_iload_n hx hb dL_keeps_24 rfl (lv_at hl 3 rfl) ?_
  refine lv_bipush (v := 20) hx hb dL_keeps_25 (by decide) ?_
  refine zq_cSi (As := [.int 0, .int 20]) (rest := []) ⟨hx, hb, hml, hown, hts⟩ (c_L_low l 0 20 (by decide)) (va_cwS 2 hts gL_keeps_L_low rfl rfl rfl (by decide +kernel) ⟨Nat.le_of_ble_eq_true rfl, Nat.le_of_ble_eq_true rfl⟩) hP hS rfl hl.1 rfl (Nat.le_of_ble_eq_true rfl) dL_keeps_27 ⟨Nat.le_of_ble_eq_true rfl, Nat.le_of_ble_eq_true rfl⟩ (fun H locs hP hS => ?_)
  rw [show zlow 0 20 = 0 by decide +kernel]
  refine lv_tableIn (off := 78) (tgt := 108) hx hb dL_keeps_30 (by decide) (by decide) (by decide +kernel) (by decide) ?_
  refine lv_iload_n hx hb dL_keeps_108 rfl (lv_at hl 4 rfl) ?_
  refine lv_iconst (v := 3) hx hb dL_keeps_109 (by decide) ?_
  refine zq_cSi (As := [.int 10, .int 3]) (rest := []) ⟨hx, hb, hml, hown, hts⟩ (c_L_low l 10 3 (by decide)) (va_cwS 2 hts gL_keeps_L_low rfl rfl rfl (by decide +kernel) ⟨Nat.le_of_ble_eq_true rfl, Nat.le_of_ble_eq_true rfl⟩) hP hS rfl hl.1 rfl (Nat.le_of_ble_eq_true rfl) dL_keeps_110 ⟨Nat.le_of_ble_eq_true rfl, Nat.le_of_ble_eq_true rfl⟩ (fun H locs hP hS => ?_)
  rw [show zlow 10 3 = 2 by decide +kernel]
  refine lv_istore (lv' := [(15, .int 2), (14, .int (zlow 10 (nI (M + 1)))), (13, .int (zlow 10 (nI (N + 1)))), (0, .ref (a 0)), (1, .int 0), (2, .int 10), (3, .ref (v 1)), (4, .ref (v 2)), (5, .ref (v 3)), (6, .ref (v 4)), (7, .ref (v 5)), (8, .ref (v 6)), (9, .ref (v 7)), (10, .ref (v 8)), (11, .ref (v 9)), (12, .ref (v 10))]) hx hb dL_keeps_113 hl (by decide) rfl (fun ls hl => ?_)
  refine lv_aload hx hb dL_keeps_115 (lv_at hl 15 rfl) ?_
  refine lv_iconst (v := 0) hx hb dL_keeps_117 (by decide) ?_
  refine zq_iald hx hb hK hP 24 0 rfl rfl (j := 0) (by decide) (by decide) dL_keeps_118 ?_
  rw [hg0]
  refine lv_bipush (v := 40) hx hb dL_keeps_119 (by decide) ?_
  refine lv_icmp_ne (tgt := 151) hx hb dL_keeps_121 (by decide) (fun c_0 => ?_) (fun c_0 => ?_)
  · have d_0 := (fun h => c_0 ((nI_eq (a := N) (b := 40) (by omega) (by omega)).mpr h) : ¬ N = 40)
    refine lv_aload_n hx hb dL_keeps_151 rfl (lv_at hl 6 rfl) ?_
    refine lv_aload hx hb dL_keeps_152 (lv_at hl 15 rfl) ?_
    refine lv_iconst (v := 0) hx hb dL_keeps_154 (by decide) ?_
    refine zq_iald hx hb hK hP 24 0 rfl rfl (j := 0) (by decide) (by decide) dL_keeps_155 ?_
    rw [hg0]
    refine lv_iload hx hb dL_keeps_156 (lv_at hl 0 rfl) ?_
    refine zq_iast hx hb hK hP hD hS 15 0 rfl rfl (j := N) (by omega) (by decide) (wLw a v cI cZ cD ki pl tu le ch ca (nI N) tk th hu od (nI M) ti be clk (upd lL N 2) lC lF lW lM lB lH lR lD lG) rfl dL_keeps_158 (fun H locs hP hD hS => ?_)
    refine lv_aload hx hb dL_keeps_159 (lv_at hl 7 rfl) ?_
    refine lv_aload hx hb dL_keeps_161 (lv_at hl 15 rfl) ?_
    refine lv_iconst (v := 0) hx hb dL_keeps_163 (by decide) ?_
    refine zq_iald hx hb hK hP 24 0 rfl rfl (j := 0) (by decide) (by decide) dL_keeps_164 ?_
    rw [hg0]
    refine lv_iload hx hb dL_keeps_165 (lv_at hl 0 rfl) ?_
    refine zq_cSd (As := [.int 2]) (rest := [.int (nI N), .ref (v 2)]) ⟨hx, hb, hml, hown, hts⟩ (c_L_fresh l ) (va_cwS 1 hts gL_keeps_L_fresh rfl rfl rfl (by decide +kernel) ⟨Nat.le_of_ble_eq_true rfl, Nat.le_of_ble_eq_true rfl⟩) hP hS rfl hl.1 rfl (Nat.le_of_ble_eq_true rfl) dL_keeps_167 ⟨Nat.le_of_ble_eq_true rfl, Nat.le_of_ble_eq_true rfl⟩ (fun H locs hP hS => ?_)
    refine zq_dast hx hb hK hP hD hS 16 2 rfl rfl (j := N) (by omega) (by decide) (wLw a v cI cZ cD ki pl tu le ch ca (nI N) tk th hu od (nI M) ti be clk (upd lL N 2) (vf_upd lC N 4626322717216342016) lF lW lM lB lH lR lD lG) rfl dL_keeps_170 (fun H locs hP hD hS => ?_)
    refine lv_aload hx hb dL_keeps_171 (lv_at hl 8 rfl) ?_
    refine lv_aload hx hb dL_keeps_173 (lv_at hl 15 rfl) ?_
    refine lv_iconst (v := 0) hx hb dL_keeps_175 (by decide) ?_
    refine zq_iald hx hb hK hP 24 0 rfl rfl (j := 0) (by decide) (by decide) dL_keeps_176 ?_
    rw [hg0]
    refine lv_iload hx hb dL_keeps_177 (lv_at hl 0 rfl) ?_
    refine zq_cSd (As := [.int 2]) (rest := [.int (nI N), .ref (v 3)]) ⟨hx, hb, hml, hown, hts⟩ (c_L_fresh l ) (va_cwS 1 hts gL_keeps_L_fresh rfl rfl rfl (by decide +kernel) ⟨Nat.le_of_ble_eq_true rfl, Nat.le_of_ble_eq_true rfl⟩) hP hS rfl hl.1 rfl (Nat.le_of_ble_eq_true rfl) dL_keeps_179 ⟨Nat.le_of_ble_eq_true rfl, Nat.le_of_ble_eq_true rfl⟩ (fun H locs hP hS => ?_)
    refine zq_dast hx hb hK hP hD hS 17 2 rfl rfl (j := N) (by omega) (by decide) (wLw a v cI cZ cD ki pl tu le ch ca (nI N) tk th hu od (nI M) ti be clk (upd lL N 2) (vf_upd lC N 4626322717216342016) (vf_upd lF N 4626322717216342016) lW lM lB lH lR lD lG) rfl dL_keeps_182 (fun H locs hP hD hS => ?_)
    refine lv_aload hx hb dL_keeps_183 (lv_at hl 15 rfl) ?_
    refine lv_iconst (v := 0) hx hb dL_keeps_185 (by decide) ?_
    refine lv_dup2_11 hx hb dL_keeps_186 rfl rfl ?_
    refine zq_iald hx hb hK hP 24 0 rfl rfl (j := 0) (by decide) (by decide) dL_keeps_187 ?_
    rw [hg0]
    refine lv_iconst (v := 1) hx hb dL_keeps_188 (by decide) ?_
    refine t_iadd hx hb dL_keeps_189 (v := nI (N + 1)) (nI_1 _) ?_
    refine zq_iast hx hb hK hP hD hS 24 0 rfl rfl (j := 0) (by omega) (by decide) (wLw a v cI cZ cD ki pl tu le ch ca (nI N) tk th hu od (nI M) ti be clk (upd lL N 2) (vf_upd lC N 4626322717216342016) (vf_upd lF N 4626322717216342016) lW lM lB lH lR lD (upd lG 0 (nI (N + 1)))) rfl dL_keeps_190 (fun H locs hP hD hS => ?_)
    refine lv_aload_n hx hb dL_keeps_191 rfl (lv_at hl 3 rfl) ?_
    refine lv_iload hx hb dL_keeps_192 (lv_at hl 0 rfl) ?_
    refine zq_cWi (As := [.ref (a 0), .int 2]) (rest := []) (wc := (wRo a cI cZ cD ki pl tu le ch ca (nI N) tk th hu od (nI M) ti be clk)) (w1 := (wRo a cI cZ cD (upd ki N 2) (upd pl N 0) tu le (vf_upd ch N (la_new 2)) (vf_upd ca N (la_new 2)) (nI (N + 1)) tk th hu od (nI M) ti be clk)) (wr := (wAr v cI cD (upd lL N 2) (vf_upd lC N 4626322717216342016) (vf_upd lF N 4626322717216342016) lW lM lB lH lR lD (upd lG 0 (nI (N + 1))))) (ws' := (wLw a v cI cZ cD (upd ki N 2) (upd pl N 0) tu le (vf_upd ch N (la_new 2)) (vf_upd ca N (la_new 2)) (nI (N + 1)) tk th hu od (nI M) ti be clk (upd lL N 2) (vf_upd lC N 4626322717216342016) (vf_upd lF N 4626322717216342016) lW lM lB lH lR lD (upd lG 0 (nI (N + 1))))) ⟨hx, hb, hml, hown, hts⟩ (c_L_addLamp_ok l dC dI a cI cZ cD ki pl tu le ch ca N tk th hu od M ti be clk (by omega) (by omega) 2 (by decide +kernel) (by omega) H.size) (vx_cwSW 2 hts gL_keeps_L_addLamp rfl rfl rfl (by decide +kernel) ⟨Nat.le_of_ble_eq_true rfl, Nat.le_of_ble_eq_true rfl⟩) hK hP hD hS hA [0, 1, 2, 3, 4, 5, 6, 7, 8, 9, 10, 11, 12, 13, 14] [15, 16, 17, 18, 19, 20, 21, 22, 23, 24] [10, 11, 12, 13, 14, 15, 16, 17, 18, 19, 20, 21, 22, 23, 24, 0, 1, 2, 3, 4, 5, 6, 7, 8, 9] rfl rfl rfl rfl (by decide) rfl rfl rfl hl.1 rfl (Nat.le_of_ble_eq_true rfl) dL_keeps_194 ⟨Nat.le_of_ble_eq_true rfl, Nat.le_of_ble_eq_true rfl⟩ (fun H locs hP hD hS => ?_)
    refine lv_aload hx hb dL_keeps_197 (lv_at hl 15 rfl) ?_
    refine lv_iconst (v := 0) hx hb dL_keeps_199 (by decide) ?_
    refine zq_iald hx hb hK hP 24 0 rfl rfl (j := 0) (by decide) (by decide) dL_keeps_200 ?_
    rw [pk_us]
    refine lv_iconst (v := 1) hx hb dL_keeps_201 (by decide) ?_
    refine t_isub hx hb dL_keeps_202 (v := nI N) (nI_pred N) ?_
    refine lv_icmp_ne (tgt := 220) hx hb dL_keeps_203 (by decide) (fun c_1 => ?_) (fun c_1 => ?_)
    · have d_1 := (fun h => c_1 ((nI_eq (a := N) (b := N) (by omega) (by omega)).mpr h) : ¬ N = N)
      exact absurd rfl d_1
    · have d_1 := (nI_eq (a := N) (b := N) (by omega) (by omega)).mp c_1
      refine lv_aload_n hx hb dL_keeps_206 rfl (lv_at hl 3 rfl) ?_
      refine lv_iconst (v := (-1)) hx hb dL_keeps_207 (by decide) ?_
      refine zl_cWi (As := [.ref (a 0), .int (-1)]) (rest := []) (wc := (wRo a cI cZ cD (upd ki N 2) (upd pl N 0) tu le (vf_upd ch N (la_new 2)) (vf_upd ca N (la_new 2)) (nI (N + 1)) tk th hu od (nI M) ti be clk)) (wr := (wAr v cI cD (upd lL N 2) (vf_upd lC N 4626322717216342016) (vf_upd lF N 4626322717216342016) lW lM lB lH lR lD (upd lG 0 (nI (N + 1))))) ⟨hx, hb, hml, hown, hts⟩ (c_L_addLamp_bad l hl0 dC dI a cI cZ cD (upd ki N 2) (upd pl N 0) tu le (vf_upd ch N (la_new 2)) (vf_upd ca N (la_new 2)) (N + 1) tk th hu od M ti be clk (by omega) (by omega) (-1) (by decide +kernel) H.size) (vx_cwSW 2 hts gL_keeps_L_addLamp rfl rfl rfl (by decide +kernel) ⟨Nat.le_of_ble_eq_true rfl, Nat.le_of_ble_eq_true rfl⟩) hK hP hD hS hA (hH.kept hS.2.1) hE [0, 1, 2, 3, 4, 5, 6, 7, 8, 9, 10, 11, 12, 13, 14] [15, 16, 17, 18, 19, 20, 21, 22, 23, 24] [10, 11, 12, 13, 14, 15, 16, 17, 18, 19, 20, 21, 22, 23, 24, 0, 1, 2, 3, 4, 5, 6, 7, 8, 9] rfl rfl rfl rfl (by decide) rfl rfl rfl hl.1 rfl (Nat.le_of_ble_eq_true rfl) dL_keeps_208 ⟨Nat.le_of_ble_eq_true rfl, Nat.le_of_ble_eq_true rfl⟩ (fun H locs hP hD hS hG => ?_)
      refine lv_bipush (v := (-62)) hx hb dL_keeps_211 (by decide) ?_
      refine lv_icmp_ne (tgt := 220) hx hb dL_keeps_213 (by decide) (fun c => absurd c (by decide)) (fun _ => ?_)
      refine lv_iconst (v := 1) hx hb dL_keeps_216 (by decide) ?_
      refine lv_goto (tgt := 221) hx hb dL_keeps_217 (by decide) ?_
      exact W.zret (v := 1) hx hb hr (by rfl) (zg_qi rfl hP hK hD hS hG) hS.2.2 dL_keeps_221
  · have d_0 := (nI_eq (a := N) (b := 40) (by omega) (by omega)).mp c_0
    exact absurd d_0 (by omega)

set_option maxHeartbeats 8000000 in
set_option maxRecDepth 100000 in
theorem c_L_keeps_miner (l : Launch) (hl0 : l.stackTraces = false) (dC : Nat → ClassId) (dI : Nat → Nat → Nat) (a : Nat → Nat) (cI cZ cD : ClassId) (ki pl tu le : Nat → Int32) (ch ca : Nat → UInt64) (N : Nat) (tk th hu od : Nat → Int32) (M : Nat) (ti : Int32) (be : Nat → Int32) (clk : Int32) (hN : N ≤ 40) (hM : M ≤ 30) (v : Nat → Nat) (lL : Nat → Int32) (lC lF : Nat → UInt64) (lW lM lB lH lR lD lG : Nat → Int32) (hg0 : lG 0 = nI N) (hg1 : lG 1 = nI M) (hM5 : M < 30) (sz : Nat) : zg_M l yL_keeps wsL_keeps ({ frames := 9, cells := 1, slots := 6, locals := 154 } : Room) (dC, dI) (zq_T cI cZ cD) [.ref (a 0), .int 4, .int 10, .ref (v 1), .ref (v 2), .ref (v 3), .ref (v 4), .ref (v 5), .ref (v 6), .ref (v 7), .ref (v 8), .ref (v 9), .ref (v 10)] (wLw a v cI cZ cD ki pl tu le ch ca (nI N) tk th hu od (nI M) ti be clk lL lC lF lW lM lB lH lR lD lG) 1 (wLw a v cI cZ cD ki pl tu le ch ca (nI N) (upd tk M 2) (upd th M (-1)) hu od (nI (M + 1)) ti be clk lL lC lF (upd lW M 2) (upd lM M 0) lB lH lR lD (upd lG 1 (nI (M + 1)))) sz 1 6 := by
  refine Met.ofW (cc := cL_keeps) (maxL := 23) (ret := (some .boolean)) (by decide) rfl ?_
  intro p e s m args below meth c s₁ B hml hv
  obtain ⟨rfl, ⟨hsz, hP, hK, hD0⟩, hH, hE⟩ := hv
  have hx := B.exec
  have hb := B.bytes
  have hr := B.returns
  have hts := atoms_spec (ws := wsL_keeps) B.pre
  have hown : s.vm.findClass RL = some m.cls := findClass_of_methodNamed B.named
  have hlocks := B.notSynchronized
  subst hsz
  have hD := hD0.self (sz := s.heap.size)
  generalize hAe : va_A (wLw a v cI cZ cD ki pl tu le ch ca (nI N) tk th hu od (nI M) ti be clk lL lC lF lW lM lB lH lR lD lG) s.heap.size = A at hD hH ⊢
  have hA : ∀ q : Nat, s.heap.size ≤ q → A q := fun q h => by rw [← hAe]; exact Or.inr h
  have hS : va_S A s.heap s.heap [] := va_S.rf
  have hP : va_P (dC, dI) vwCl (wLw a v cI cZ cD ki pl tu le ch ca (nI N) tk th hu od (nI M) ti be clk lL lC lF lW lM lB lH lR lD lG) s.heap := hP
  have hl := lv_entry ([.ref (a 0), .int 4, .int 10, .ref (v 1), .ref (v 2), .ref (v 3), .ref (v 4), .ref (v 5), .ref (v 6), .ref (v 7), .ref (v 8), .ref (v 9), .ref (v 10)]) (n := 23) (Nat.le_of_ble_eq_true rfl)
  rw [lg_entry_eq]
  generalize (lg_sl ([.ref (a 0), .int 4, .int 10, .ref (v 1), .ref (v 2), .ref (v 3), .ref (v 4), .ref (v 5), .ref (v 6), .ref (v 7), .ref (v 8), .ref (v 9), .ref (v 10)]) ++ List.replicate (23 - (lg_sl ([.ref (a 0), .int 4, .int 10, .ref (v 1), .ref (v 2), .ref (v 3), .ref (v 4), .ref (v 5), .ref (v 6), .ref (v 7), .ref (v 8), .ref (v 9), .ref (v 10)])).length) Slot.unset).toArray = ls at hl ⊢
  have hl : lv_has ls 23 [(0, .ref (a 0)), (1, .int 4), (2, .int 10), (3, .ref (v 1)), (4, .ref (v 2)), (5, .ref (v 3)), (6, .ref (v 4)), (7, .ref (v 5)), (8, .ref (v 6)), (9, .ref (v 7)), (10, .ref (v 8)), (11, .ref (v 9)), (12, .ref (v 10))] := hl
  refine lv_iload_n hx hb dL_keeps_0 rfl (lv_at hl 2 rfl) ?_
  refine lv_aload hx hb dL_keeps_1 (lv_at hl 12 rfl) ?_
  refine lv_iconst (v := 0) hx hb dL_keeps_3 (by decide) ?_
  refine zq_iald hx hb hK hP 24 0 rfl rfl (j := 0) (by decide) (by decide) dL_keeps_4 ?_
  rw [hg0]
  refine lv_iconst (v := 1) hx hb dL_keeps_5 (by decide) ?_
  refine t_iadd hx hb dL_keeps_6 (v := nI (N + 1)) (nI_1 _) ?_
  refine zq_cSi (As := [.int 10, .int (nI (N + 1))]) (rest := []) ⟨hx, hb, hml, hown, hts⟩ (c_L_low l 10 (nI (N + 1)) (nI_ne0 (by omega) (by omega))) (va_cwS 2 hts gL_keeps_L_low rfl rfl rfl (by decide +kernel) ⟨Nat.le_of_ble_eq_true rfl, Nat.le_of_ble_eq_true rfl⟩) hP hS rfl hl.1 rfl (Nat.le_of_ble_eq_true rfl) dL_keeps_7 ⟨Nat.le_of_ble_eq_true rfl, Nat.le_of_ble_eq_true rfl⟩ (fun H locs hP hS => ?_)
  refine lv_istore (lv' := [(13, .int (zlow 10 (nI (N + 1)))), (0, .ref (a 0)), (1, .int 4), (2, .int 10), (3, .ref (v 1)), (4, .ref (v 2)), (5, .ref (v 3)), (6, .ref (v 4)), (7, .ref (v 5)), (8, .ref (v 6)), (9, .ref (v 7)), (10, .ref (v 8)), (11, .ref (v 9)), (12, .ref (v 10))]) hx hb dL_keeps_10 hl (by decide) rfl (fun ls hl => ?_)
  refine lv_iload_n hx hb dL_keeps_12 rfl (lv_at hl 3 rfl) ?_
  refine lv_aload hx hb dL_keeps_13 (lv_at hl 13 rfl) ?_
  refine lv_iconst (v := 1) hx hb dL_keeps_15 (by decide) ?_
  refine zq_iald hx hb hK hP 24 0 rfl rfl (j := 1) (by decide) (by decide) dL_keeps_16 ?_
  rw [hg1]
  refine lv_iconst (v := 1) hx hb dL_keeps_17 (by decide) ?_
  refine t_iadd hx hb dL_keeps_18 (v := nI (M + 1)) (nI_1 _) ?_
  refine zq_cSi (As := [.int 10, .int (nI (M + 1))]) (rest := []) ⟨hx, hb, hml, hown, hts⟩ (c_L_low l 10 (nI (M + 1)) (nI_ne0 (by omega) (by omega))) (va_cwS 2 hts gL_keeps_L_low rfl rfl rfl (by decide +kernel) ⟨Nat.le_of_ble_eq_true rfl, Nat.le_of_ble_eq_true rfl⟩) hP hS rfl hl.1 rfl (Nat.le_of_ble_eq_true rfl) dL_keeps_19 ⟨Nat.le_of_ble_eq_true rfl, Nat.le_of_ble_eq_true rfl⟩ (fun H locs hP hS => ?_)
  refine lv_istore (lv' := [(14, .int (zlow 10 (nI (M + 1)))), (13, .int (zlow 10 (nI (N + 1)))), (0, .ref (a 0)), (1, .int 4), (2, .int 10), (3, .ref (v 1)), (4, .ref (v 2)), (5, .ref (v 3)), (6, .ref (v 4)), (7, .ref (v 5)), (8, .ref (v 6)), (9, .ref (v 7)), (10, .ref (v 8)), (11, .ref (v 9)), (12, .ref (v 10))]) hx hb dL_keeps_22 hl (by decide) rfl (fun ls hl => ?_)
  refine lv_iload_n hx hb dL_keeps_24 rfl (lv_at hl 3 rfl) ?_
  refine lv_bipush (v := 20) hx hb dL_keeps_25 (by decide) ?_
  refine zq_cSi (As := [.int 4, .int 20]) (rest := []) ⟨hx, hb, hml, hown, hts⟩ (c_L_low l 4 20 (by decide)) (va_cwS 2 hts gL_keeps_L_low rfl rfl rfl (by decide +kernel) ⟨Nat.le_of_ble_eq_true rfl, Nat.le_of_ble_eq_true rfl⟩) hP hS rfl hl.1 rfl (Nat.le_of_ble_eq_true rfl) dL_keeps_27 ⟨Nat.le_of_ble_eq_true rfl, Nat.le_of_ble_eq_true rfl⟩ (fun H locs hP hS => ?_)
  rw [show zlow 4 20 = 2 by decide +kernel]
  refine lv_tableIn (off := 192) (tgt := 222) hx hb dL_keeps_30 (by decide) (by decide) (by decide +kernel) (by decide) ?_
  refine lv_aload hx hb dL_keeps_222 (lv_at hl 14 rfl) ?_
  refine lv_iconst (v := 1) hx hb dL_keeps_224 (by decide) ?_
  refine zq_iald hx hb hK hP 24 0 rfl rfl (j := 1) (by decide) (by decide) dL_keeps_225 ?_
  rw [hg1]
  refine lv_bipush (v := 30) hx hb dL_keeps_226 (by decide) ?_
  refine lv_icmp_ne (tgt := 247) hx hb dL_keeps_228 (by decide) (fun c_0 => ?_) (fun c_0 => ?_)
  · have d_0 := (fun h => c_0 ((nI_eq (a := M) (b := 30) (by omega) (by omega)).mpr h) : ¬ M = 30)
    refine lv_aload hx hb dL_keeps_247 (lv_at hl 8 rfl) ?_
    refine lv_aload hx hb dL_keeps_249 (lv_at hl 14 rfl) ?_
    refine lv_iconst (v := 1) hx hb dL_keeps_251 (by decide) ?_
    refine zq_iald hx hb hK hP 24 0 rfl rfl (j := 1) (by decide) (by decide) dL_keeps_252 ?_
    rw [hg1]
    refine lv_iload_n hx hb dL_keeps_253 rfl (lv_at hl 4 rfl) ?_
    refine lv_iconst (v := 3) hx hb dL_keeps_254 (by decide) ?_
    refine zq_cSi (As := [.int 10, .int 3]) (rest := [.int (nI M), .ref (v 4)]) ⟨hx, hb, hml, hown, hts⟩ (c_L_low l 10 3 (by decide)) (va_cwS 2 hts gL_keeps_L_low rfl rfl rfl (by decide +kernel) ⟨Nat.le_of_ble_eq_true rfl, Nat.le_of_ble_eq_true rfl⟩) hP hS rfl hl.1 rfl (Nat.le_of_ble_eq_true rfl) dL_keeps_255 ⟨Nat.le_of_ble_eq_true rfl, Nat.le_of_ble_eq_true rfl⟩ (fun H locs hP hS => ?_)
    rw [show zlow 10 3 = 2 by decide +kernel]
    refine zq_iast hx hb hK hP hD hS 18 0 rfl rfl (j := M) (by omega) (by decide) (wLw a v cI cZ cD ki pl tu le ch ca (nI N) tk th hu od (nI M) ti be clk lL lC lF (upd lW M 2) lM lB lH lR lD lG) rfl dL_keeps_258 (fun H locs hP hD hS => ?_)
    refine lv_aload hx hb dL_keeps_259 (lv_at hl 9 rfl) ?_
    refine lv_aload hx hb dL_keeps_261 (lv_at hl 14 rfl) ?_
    refine lv_iconst (v := 1) hx hb dL_keeps_263 (by decide) ?_
    refine zq_iald hx hb hK hP 24 0 rfl rfl (j := 1) (by decide) (by decide) dL_keeps_264 ?_
    rw [hg1]
    refine lv_iconst (v := 0) hx hb dL_keeps_265 (by decide) ?_
    refine zq_iast hx hb hK hP hD hS 19 0 rfl rfl (j := M) (by omega) (by decide) (wLw a v cI cZ cD ki pl tu le ch ca (nI N) tk th hu od (nI M) ti be clk lL lC lF (upd lW M 2) (upd lM M 0) lB lH lR lD lG) rfl dL_keeps_266 (fun H locs hP hD hS => ?_)
    refine lv_aload hx hb dL_keeps_267 (lv_at hl 14 rfl) ?_
    refine lv_iconst (v := 1) hx hb dL_keeps_269 (by decide) ?_
    refine lv_dup2_11 hx hb dL_keeps_270 rfl rfl ?_
    refine zq_iald hx hb hK hP 24 0 rfl rfl (j := 1) (by decide) (by decide) dL_keeps_271 ?_
    rw [hg1]
    refine lv_iconst (v := 1) hx hb dL_keeps_272 (by decide) ?_
    refine t_iadd hx hb dL_keeps_273 (v := nI (M + 1)) (nI_1 _) ?_
    refine zq_iast hx hb hK hP hD hS 24 0 rfl rfl (j := 1) (by omega) (by decide) (wLw a v cI cZ cD ki pl tu le ch ca (nI N) tk th hu od (nI M) ti be clk lL lC lF (upd lW M 2) (upd lM M 0) lB lH lR lD (upd lG 1 (nI (M + 1)))) rfl dL_keeps_274 (fun H locs hP hD hS => ?_)
    refine lv_aload_n hx hb dL_keeps_275 rfl (lv_at hl 2 rfl) ?_
    refine lv_aload hx hb dL_keeps_276 (lv_at hl 8 rfl) ?_
    refine lv_aload hx hb dL_keeps_278 (lv_at hl 14 rfl) ?_
    refine lv_iconst (v := 1) hx hb dL_keeps_280 (by decide) ?_
    refine zq_iald hx hb hK hP 24 0 rfl rfl (j := 1) (by decide) (by decide) dL_keeps_281 ?_
    rw [pk_us]
    refine lv_iconst (v := 1) hx hb dL_keeps_282 (by decide) ?_
    refine t_isub hx hb dL_keeps_283 (v := nI M) (nI_pred M) ?_
    refine zq_iald hx hb hK hP 18 0 rfl rfl (j := M) (by omega) (by decide) dL_keeps_284 ?_
    rw [pk_us]
    refine zq_cWi (As := [.ref (a 0), .int 2]) (rest := []) (wc := (wRo a cI cZ cD ki pl tu le ch ca (nI N) tk th hu od (nI M) ti be clk)) (w1 := (wRo a cI cZ cD ki pl tu le ch ca (nI N) (upd tk M 2) (upd th M (-1)) hu od (nI (M + 1)) ti be clk)) (wr := (wAr v cI cD lL lC lF (upd lW M 2) (upd lM M 0) lB lH lR lD (upd lG 1 (nI (M + 1))))) (ws' := (wLw a v cI cZ cD ki pl tu le ch ca (nI N) (upd tk M 2) (upd th M (-1)) hu od (nI (M + 1)) ti be clk lL lC lF (upd lW M 2) (upd lM M 0) lB lH lR lD (upd lG 1 (nI (M + 1))))) ⟨hx, hb, hml, hown, hts⟩ (c_L_addMiner_ok l dC dI a cI cZ cD ki pl tu le ch ca N tk th hu od M ti be clk (by omega) (by omega) 2 (by decide +kernel) (by omega) H.size) (vx_cwSW 2 hts gL_keeps_L_addMiner rfl rfl rfl (by decide +kernel) ⟨Nat.le_of_ble_eq_true rfl, Nat.le_of_ble_eq_true rfl⟩) hK hP hD hS hA [0, 1, 2, 3, 4, 5, 6, 7, 8, 9, 10, 11, 12, 13, 14] [15, 16, 17, 18, 19, 20, 21, 22, 23, 24] [10, 11, 12, 13, 14, 15, 16, 17, 18, 19, 20, 21, 22, 23, 24, 0, 1, 2, 3, 4, 5, 6, 7, 8, 9] rfl rfl rfl rfl (by decide) rfl rfl rfl hl.1 rfl (Nat.le_of_ble_eq_true rfl) dL_keeps_285 ⟨Nat.le_of_ble_eq_true rfl, Nat.le_of_ble_eq_true rfl⟩ (fun H locs hP hD hS => ?_)
    refine lv_aload hx hb dL_keeps_288 (lv_at hl 14 rfl) ?_
    refine lv_iconst (v := 1) hx hb dL_keeps_290 (by decide) ?_
    refine zq_iald hx hb hK hP 24 0 rfl rfl (j := 1) (by decide) (by decide) dL_keeps_291 ?_
    rw [pk_us]
    refine lv_iconst (v := 1) hx hb dL_keeps_292 (by decide) ?_
    refine t_isub hx hb dL_keeps_293 (v := nI M) (nI_pred M) ?_
    refine lv_icmp_ne (tgt := 311) hx hb dL_keeps_294 (by decide) (fun c_1 => ?_) (fun c_1 => ?_)
    · have d_1 := (fun h => c_1 ((nI_eq (a := M) (b := M) (by omega) (by omega)).mpr h) : ¬ M = M)
      exact absurd rfl d_1
    · have d_1 := (nI_eq (a := M) (b := M) (by omega) (by omega)).mp c_1
      refine lv_aload_n hx hb dL_keeps_297 rfl (lv_at hl 2 rfl) ?_
      refine lv_iconst (v := 3) hx hb dL_keeps_298 (by decide) ?_
      refine zl_cWi (As := [.ref (a 0), .int 3]) (rest := []) (wc := (wRo a cI cZ cD ki pl tu le ch ca (nI N) (upd tk M 2) (upd th M (-1)) hu od (nI (M + 1)) ti be clk)) (wr := (wAr v cI cD lL lC lF (upd lW M 2) (upd lM M 0) lB lH lR lD (upd lG 1 (nI (M + 1))))) ⟨hx, hb, hml, hown, hts⟩ (c_L_addMiner_bad l hl0 dC dI a cI cZ cD ki pl tu le ch ca N (upd tk M 2) (upd th M (-1)) hu od (M + 1) ti be clk (by omega) (by omega) 3 (by decide +kernel) H.size) (vx_cwSW 2 hts gL_keeps_L_addMiner rfl rfl rfl (by decide +kernel) ⟨Nat.le_of_ble_eq_true rfl, Nat.le_of_ble_eq_true rfl⟩) hK hP hD hS hA (hH.kept hS.2.1) hE [0, 1, 2, 3, 4, 5, 6, 7, 8, 9, 10, 11, 12, 13, 14] [15, 16, 17, 18, 19, 20, 21, 22, 23, 24] [10, 11, 12, 13, 14, 15, 16, 17, 18, 19, 20, 21, 22, 23, 24, 0, 1, 2, 3, 4, 5, 6, 7, 8, 9] rfl rfl rfl rfl (by decide) rfl rfl rfl hl.1 rfl (Nat.le_of_ble_eq_true rfl) dL_keeps_299 ⟨Nat.le_of_ble_eq_true rfl, Nat.le_of_ble_eq_true rfl⟩ (fun H locs hP hD hS hG => ?_)
      refine lv_bipush (v := (-62)) hx hb dL_keeps_302 (by decide) ?_
      refine lv_icmp_ne (tgt := 311) hx hb dL_keeps_304 (by decide) (fun c => absurd c (by decide)) (fun _ => ?_)
      refine lv_iconst (v := 1) hx hb dL_keeps_307 (by decide) ?_
      refine lv_goto (tgt := 312) hx hb dL_keeps_308 (by decide) ?_
      exact W.zret (v := 1) hx hb hr (by rfl) (zg_qi rfl hP hK hD hS hG) hS.2.2 dL_keeps_312
  · have d_0 := (nI_eq (a := M) (b := 30) (by omega) (by omega)).mp c_0
    exact absurd d_0 (by omega)

set_option maxHeartbeats 8000000 in
set_option maxRecDepth 100000 in
theorem c_L_keeps_test (l : Launch) (hl0 : l.stackTraces = false) (dC : Nat → ClassId) (dI : Nat → Nat → Nat) (a : Nat → Nat) (cI cZ cD : ClassId) (ki pl tu le : Nat → Int32) (ch ca : Nat → UInt64) (N : Nat) (tk th hu od : Nat → Int32) (M : Nat) (ti : Int32) (be : Nat → Int32) (clk : Int32) (hN : N ≤ 40) (hM : M ≤ 30) (v : Nat → Nat) (lL : Nat → Int32) (lC lF : Nat → UInt64) (lW lM lB lH lR lD lG : Nat → Int32) (hg0 : lG 0 = nI N) (hg1 : lG 1 = nI M) (hN5 : N = 5) (sz : Nat) : zg_M l yL_keeps wsL_keeps ({ frames := 9, cells := 2, slots := 12, locals := 156 } : Room) (dC, dI) (zq_T cI cZ cD) [.ref (a 0), .int 26, .int 10, .ref (v 1), .ref (v 2), .ref (v 3), .ref (v 4), .ref (v 5), .ref (v 6), .ref (v 7), .ref (v 8), .ref (v 9), .ref (v 10)] (wLw a v cI cZ cD ki pl tu le ch ca (nI N) tk th hu od (nI M) ti be clk lL lC lF lW lM lB lH lR lD lG) 1 (wLw a v cI cZ cD ki pl tu le ch ca (nI N) tk th hu od (nI M) ti be clk lL lC lF lW lM lB lH lR lD lG) sz 2 12 := by
  refine Met.ofW (cc := cL_keeps) (maxL := 23) (ret := (some .boolean)) (by decide) rfl ?_
  intro p e s m args below meth c s₁ B hml hv
  obtain ⟨rfl, ⟨hsz, hP, hK, hD0⟩, hH, hE⟩ := hv
  have hx := B.exec
  have hb := B.bytes
  have hr := B.returns
  have hts := atoms_spec (ws := wsL_keeps) B.pre
  have hown : s.vm.findClass RL = some m.cls := findClass_of_methodNamed B.named
  have hlocks := B.notSynchronized
  subst hsz
  have hD := hD0.self (sz := s.heap.size)
  generalize hAe : va_A (wLw a v cI cZ cD ki pl tu le ch ca (nI N) tk th hu od (nI M) ti be clk lL lC lF lW lM lB lH lR lD lG) s.heap.size = A at hD hH ⊢
  have hA : ∀ q : Nat, s.heap.size ≤ q → A q := fun q h => by rw [← hAe]; exact Or.inr h
  have hS : va_S A s.heap s.heap [] := va_S.rf
  have hP : va_P (dC, dI) vwCl (wLw a v cI cZ cD ki pl tu le ch ca (nI N) tk th hu od (nI M) ti be clk lL lC lF lW lM lB lH lR lD lG) s.heap := hP
  have hl := lv_entry ([.ref (a 0), .int 26, .int 10, .ref (v 1), .ref (v 2), .ref (v 3), .ref (v 4), .ref (v 5), .ref (v 6), .ref (v 7), .ref (v 8), .ref (v 9), .ref (v 10)]) (n := 23) (Nat.le_of_ble_eq_true rfl)
  rw [lg_entry_eq]
  generalize (lg_sl ([.ref (a 0), .int 26, .int 10, .ref (v 1), .ref (v 2), .ref (v 3), .ref (v 4), .ref (v 5), .ref (v 6), .ref (v 7), .ref (v 8), .ref (v 9), .ref (v 10)]) ++ List.replicate (23 - (lg_sl ([.ref (a 0), .int 26, .int 10, .ref (v 1), .ref (v 2), .ref (v 3), .ref (v 4), .ref (v 5), .ref (v 6), .ref (v 7), .ref (v 8), .ref (v 9), .ref (v 10)])).length) Slot.unset).toArray = ls at hl ⊢
  have hl : lv_has ls 23 [(0, .ref (a 0)), (1, .int 26), (2, .int 10), (3, .ref (v 1)), (4, .ref (v 2)), (5, .ref (v 3)), (6, .ref (v 4)), (7, .ref (v 5)), (8, .ref (v 6)), (9, .ref (v 7)), (10, .ref (v 8)), (11, .ref (v 9)), (12, .ref (v 10))] := hl
  refine lv_iload_n hx hb dL_keeps_0 rfl (lv_at hl 2 rfl) ?_
  refine lv_aload hx hb dL_keeps_1 (lv_at hl 12 rfl) ?_
  refine lv_iconst (v := 0) hx hb dL_keeps_3 (by decide) ?_
  refine zq_iald hx hb hK hP 24 0 rfl rfl (j := 0) (by decide) (by decide) dL_keeps_4 ?_
  rw [hg0]
  refine lv_iconst (v := 1) hx hb dL_keeps_5 (by decide) ?_
  refine t_iadd hx hb dL_keeps_6 (v := nI (N + 1)) (nI_1 _) ?_
  refine zq_cSi (As := [.int 10, .int (nI (N + 1))]) (rest := []) ⟨hx, hb, hml, hown, hts⟩ (c_L_low l 10 (nI (N + 1)) (nI_ne0 (by omega) (by omega))) (va_cwS 2 hts gL_keeps_L_low rfl rfl rfl (by decide +kernel) ⟨Nat.le_of_ble_eq_true rfl, Nat.le_of_ble_eq_true rfl⟩) hP hS rfl hl.1 rfl (Nat.le_of_ble_eq_true rfl) dL_keeps_7 ⟨Nat.le_of_ble_eq_true rfl, Nat.le_of_ble_eq_true rfl⟩ (fun H locs hP hS => ?_)
  rw [show zlow 10 (nI (N + 1)) = nI N by subst hN5; decide +kernel]
  refine lv_istore (lv' := [(13, .int (nI N)), (0, .ref (a 0)), (1, .int 26), (2, .int 10), (3, .ref (v 1)), (4, .ref (v 2)), (5, .ref (v 3)), (6, .ref (v 4)), (7, .ref (v 5)), (8, .ref (v 6)), (9, .ref (v 7)), (10, .ref (v 8)), (11, .ref (v 9)), (12, .ref (v 10))]) hx hb dL_keeps_10 hl (by decide) rfl (fun ls hl => ?_)
  refine lv_iload_n hx hb dL_keeps_12 rfl (lv_at hl 3 rfl) ?_
  refine lv_aload hx hb dL_keeps_13 (lv_at hl 13 rfl) ?_
  refine lv_iconst (v := 1) hx hb dL_keeps_15 (by decide) ?_
  refine zq_iald hx hb hK hP 24 0 rfl rfl (j := 1) (by decide) (by decide) dL_keeps_16 ?_
  rw [hg1]
  refine lv_iconst (v := 1) hx hb dL_keeps_17 (by decide) ?_
  refine t_iadd hx hb dL_keeps_18 (v := nI (M + 1)) (nI_1 _) ?_
  refine zq_cSi (As := [.int 10, .int (nI (M + 1))]) (rest := []) ⟨hx, hb, hml, hown, hts⟩ (c_L_low l 10 (nI (M + 1)) (nI_ne0 (by omega) (by omega))) (va_cwS 2 hts gL_keeps_L_low rfl rfl rfl (by decide +kernel) ⟨Nat.le_of_ble_eq_true rfl, Nat.le_of_ble_eq_true rfl⟩) hP hS rfl hl.1 rfl (Nat.le_of_ble_eq_true rfl) dL_keeps_19 ⟨Nat.le_of_ble_eq_true rfl, Nat.le_of_ble_eq_true rfl⟩ (fun H locs hP hS => ?_)
  refine lv_istore (lv' := [(14, .int (zlow 10 (nI (M + 1)))), (13, .int (nI N)), (0, .ref (a 0)), (1, .int 26), (2, .int 10), (3, .ref (v 1)), (4, .ref (v 2)), (5, .ref (v 3)), (6, .ref (v 4)), (7, .ref (v 5)), (8, .ref (v 6)), (9, .ref (v 7)), (10, .ref (v 8)), (11, .ref (v 9)), (12, .ref (v 10))]) hx hb dL_keeps_22 hl (by decide) rfl (fun ls hl => ?_)
  refine lv_iload_n hx hb dL_keeps_24 rfl (lv_at hl 3 rfl) ?_
  refine lv_bipush (v := 20) hx hb dL_keeps_25 (by decide) ?_
  refine zq_cSi (As := [.int 26, .int 20]) (rest := []) ⟨hx, hb, hml, hown, hts⟩ (c_L_low l 26 20 (by decide)) (va_cwS 2 hts gL_keeps_L_low rfl rfl rfl (by decide +kernel) ⟨Nat.le_of_ble_eq_true rfl, Nat.le_of_ble_eq_true rfl⟩) hP hS rfl hl.1 rfl (Nat.le_of_ble_eq_true rfl) dL_keeps_27 ⟨Nat.le_of_ble_eq_true rfl, Nat.le_of_ble_eq_true rfl⟩ (fun H locs hP hS => ?_)
  rw [show zlow 26 20 = 13 by decide +kernel]
  refine lv_tableIn (off := 651) (tgt := 681) hx hb dL_keeps_30 (by decide) (by decide) (by decide +kernel) (by decide) ?_
  refine lv_iload hx hb dL_keeps_681 (lv_at hl 1 rfl) ?_
  refine lv_aload hx hb dL_keeps_683 (lv_at hl 14 rfl) ?_
  refine lv_iconst (v := 0) hx hb dL_keeps_685 (by decide) ?_
  refine zq_iald hx hb hK hP 24 0 rfl rfl (j := 0) (by decide) (by decide) dL_keeps_686 ?_
  rw [hg0]
  refine lv_icmp_ne (tgt := 718) hx hb dL_keeps_687 (by decide) (fun c_0 => ?_) (fun c_0 => ?_)
  · have d_0 := (fun h => c_0 ((nI_eq (a := N) (b := N) (by omega) (by omega)).mpr h) : ¬ N = N)
    exact absurd rfl d_0
  · have d_0 := (nI_eq (a := N) (b := N) (by omega) (by omega)).mp c_0
    refine lv_aload_n hx hb dL_keeps_690 rfl (lv_at hl 2 rfl) ?_
    refine lv_iload hx hb dL_keeps_691 (lv_at hl 1 rfl) ?_
    refine zl_cWi (As := [.ref (a 0), .int (nI N)]) (rest := []) (wc := (wRo a cI cZ cD ki pl tu le ch ca (nI N) tk th hu od (nI M) ti be clk)) (wr := (wAr v cI cD lL lC lF lW lM lB lH lR lD lG)) ⟨hx, hb, hml, hown, hts⟩ (c_L_test_bad l hl0 dC dI a cI cZ cD ki pl tu le ch ca N tk th hu od M ti be clk (by omega) (by omega) (nI N) (zw_top (by omega)) H.size) (vx_cwSW 2 hts gL_keeps_L_test rfl rfl rfl (by decide +kernel) ⟨Nat.le_of_ble_eq_true rfl, Nat.le_of_ble_eq_true rfl⟩) hK hP hD hS hA (hH.kept hS.2.1) hE [0, 1, 2, 3, 4, 5, 6, 7, 8, 9, 10, 11, 12, 13, 14] [15, 16, 17, 18, 19, 20, 21, 22, 23, 24] [10, 11, 12, 13, 14, 15, 16, 17, 18, 19, 20, 21, 22, 23, 24, 0, 1, 2, 3, 4, 5, 6, 7, 8, 9] rfl rfl rfl rfl (by decide) rfl rfl rfl hl.1 rfl (Nat.le_of_ble_eq_true rfl) dL_keeps_693 ⟨Nat.le_of_ble_eq_true rfl, Nat.le_of_ble_eq_true rfl⟩ (fun H locs hP hD hS hG => ?_)
    refine lv_bipush (v := (-61)) hx hb dL_keeps_696 (by decide) ?_
    refine lv_icmp_ne (tgt := 716) hx hb dL_keeps_698 (by decide) (fun c => absurd c (by decide)) (fun _ => ?_)
    refine lv_aload_n hx hb dL_keeps_701 rfl (lv_at hl 2 rfl) ?_
    refine lv_iload hx hb dL_keeps_702 (lv_at hl 1 rfl) ?_
    refine zl_cWi (As := [.ref (a 0), .int (nI N)]) (rest := []) (wc := (wRo a cI cZ cD ki pl tu le ch ca (nI N) tk th hu od (nI M) ti be clk)) (wr := (wAr v cI cD lL lC lF lW lM lB lH lR lD lG)) ⟨hx, hb, hml, hown, hts⟩ (c_L_mend_bad l hl0 dC dI a cI cZ cD ki pl tu le ch ca N tk th hu od M ti be clk (by omega) (by omega) (nI N) (zw_top (by omega)) H.size) (vx_cwSW 2 hts gL_keeps_L_mend rfl rfl rfl (by decide +kernel) ⟨Nat.le_of_ble_eq_true rfl, Nat.le_of_ble_eq_true rfl⟩) hK hP hD hS hA (hH.kept hS.2.1) hE [0, 1, 2, 3, 4, 5, 6, 7, 8, 9, 10, 11, 12, 13, 14] [15, 16, 17, 18, 19, 20, 21, 22, 23, 24] [10, 11, 12, 13, 14, 15, 16, 17, 18, 19, 20, 21, 22, 23, 24, 0, 1, 2, 3, 4, 5, 6, 7, 8, 9] rfl rfl rfl rfl (by decide) rfl rfl rfl hl.1 rfl (Nat.le_of_ble_eq_true rfl) dL_keeps_704 ⟨Nat.le_of_ble_eq_true rfl, Nat.le_of_ble_eq_true rfl⟩ (fun H locs hP hD hS hG => ?_)
    refine lv_bipush (v := (-61)) hx hb dL_keeps_707 (by decide) ?_
    refine lv_icmp_ne (tgt := 716) hx hb dL_keeps_709 (by decide) (fun c => absurd c (by decide)) (fun _ => ?_)
    refine lv_iconst (v := 1) hx hb dL_keeps_712 (by decide) ?_
    refine lv_goto (tgt := 717) hx hb dL_keeps_713 (by decide) ?_
    exact W.zret (v := 1) hx hb hr (by rfl) (zg_qi rfl hP hK hD hS hG) hS.2.2 dL_keeps_717
end
section
/-! the law's loop on the script 26, 10, 26, 10, ..: each turn leaves three cells more, at least -/
theorem zw_u1 {f : Nat → Int32} {x : Int32} {n : Nat} (h : ∀ i, i < n → f i = x) : ∀ i, i < n + 1 → upd f n x i = x := fun i hi => by
  show (if i = n then x else f i) = x
  by_cases e : i = n
  · rw [if_pos e]
  · rw [if_neg e]
    exact h i (by omega)
theorem zw_u2 {f : Nat → UInt64} {x y : UInt64} {n : Nat} (hx : x = y) (h : ∀ i, i < n → f i = y) : ∀ i, i < n + 1 → vf_upd f n x i = y := fun i hi => by
  unfold vf_upd
  by_cases e : i = n
  · rw [if_pos e]
    exact hx
  · rw [if_neg e]
    exact h i (by omega)
theorem zw_n2 : la_new 2 = 4626322717216342016 := by decide +kernel
/-- N lamps, all of class 2, full and on the rack; M miners, none of them below; no alarm; the law's rows say the same -/
def zw_S (N M : Nat) (ki pl tu : Nat → Int32) (ch ca : Nat → UInt64) (th be lL : Nat → Int32) (lC lF : Nat → UInt64) (lM lG : Nat → Int32) : Prop :=
  lG 0 = nI N ∧ lG 1 = nI M ∧ (∀ i, i < M → th i = -1) ∧ (∀ i, i < M → lM i = 0) ∧ (∀ i, be i = 0) ∧ (∀ i, i < N → pl i = 0) ∧ (∀ i, tu i = 0) ∧ (∀ i, i < N → ch i = 4626322717216342016) ∧ (∀ i, i < N → ca i = 4626322717216342016) ∧ (∀ i, i < N → ki i = 2) ∧ (∀ i, i < N → lL i = 2) ∧ (∀ i, i < N → lC i = 4626322717216342016) ∧ (∀ i, i < N → lF i = 4626322717216342016) ∧ (∀ i, i < 40 → zn_p (ch i)) ∧ (∀ i, i < 40 → zn_p (ca i))
theorem zw_S.lamp {ki pl tu : Nat → Int32} {ch ca : Nat → UInt64} {N M : Nat} {th be lL : Nat → Int32} {lC lF : Nat → UInt64} {lM lG : Nat → Int32} (h : zw_S N M ki pl tu ch ca th be lL lC lF lM lG) : zw_S (N + 1) M (upd ki N 2) (upd pl N 0) tu (vf_upd ch N (la_new 2)) (vf_upd ca N (la_new 2)) th be (upd lL N 2) (vf_upd lC N 4626322717216342016) (vf_upd lF N 4626322717216342016) lM (upd lG 0 (nI (N + 1))) := by
  obtain ⟨hg0, hg1, hth, hm0, hbe, hpl, htu, hch, hca, hki, hlL, hlC, hlF, hp, hc⟩ := h
  exact ⟨rfl, hg1, hth, hm0, hbe, zw_u1 hpl, htu, zw_u2 zw_n2 hch, zw_u2 zw_n2 hca, zw_u1 hki, zw_u1 hlL, zw_u2 rfl hlC, zw_u2 rfl hlF, fun i hi => zn_up (zn_new 2) (hp i hi), fun i hi => zn_up (zn_new 2) (hc i hi)⟩
theorem zw_S.miner {ki pl tu : Nat → Int32} {ch ca : Nat → UInt64} {N M : Nat} {th be lL : Nat → Int32} {lC lF : Nat → UInt64} {lM lG : Nat → Int32} (h : zw_S N M ki pl tu ch ca th be lL lC lF lM lG) : zw_S N (M + 1) ki pl tu ch ca (upd th M (-1)) be lL lC lF (upd lM M 0) (upd lG 1 (nI (M + 1))) := by
  obtain ⟨hg0, hg1, hth, hm0, hbe, hpl, htu, hch, hca, hki, hlL, hlC, hlF, hp, hc⟩ := h
  exact ⟨hg0, rfl, zw_u1 hth, zw_u1 hm0, hbe, hpl, htu, hch, hca, hki, hlL, hlC, hlF, hp, hc⟩
def zw_I (D : va_G) (A : Nat → Prop) (s : State) (a v : Nat → Nat) (cI cZ cD : ClassId) (b i : Nat) (H : Heap) (locs : List Loc) (ls : Array Slot) : Prop := ∃ (ki pl tu le : Nat → Int32) (ch ca : Nat → UInt64) (N : Nat) (tk th hu od : Nat → Int32) (M : Nat) (ti : Int32) (be : Nat → Int32) (clk : Int32) (lL : Nat → Int32) (lC lF : Nat → UInt64) (lW lM lB lH lR lD lG : Nat → Int32), (N ≤ i ∧ N ≤ 5 ∧ (i ≤ N ∨ 5 ≤ N) ∧ M ≤ i - 5 ∧ M ≤ 5 ∧ (i - 5 ≤ M ∨ 5 ≤ M)) ∧ zw_S N M ki pl tu ch ca th be lL lC lF lM lG ∧ va_P D vwCl (wLw a v cI cZ cD ki pl tu le ch ca (nI N) tk th hu od (nI M) ti be clk lL lC lF lW lM lB lH lR lD lG) H ∧ va_D A (wLw a v cI cZ cD ki pl tu le ch ca (nI N) tk th hu od (nI M) ti be clk lL lC lF lW lM lB lH lR lD lG) ∧ va_S A s.heap H locs ∧ lv_has ls 16 [(12, .int (nI i)), (0, .ref b), (1, .ref (a 0)), (2, .ref (v 1)), (3, .ref (v 2)), (4, .ref (v 3)), (5, .ref (v 4)), (6, .ref (v 5)), (7, .ref (v 6)), (8, .ref (v 7)), (9, .ref (v 8)), (10, .ref (v 9)), (11, .ref (v 10))] ∧ s.heap.size + 3 * i ≤ H.size
abbrev room2 : Room := { frames := 12, cells := 800, slots := 6000, locals := 480 }
abbrev zc_M (l : Launch) (y : MethodName) (wsy : List Cond) (rm : Room) (b L : Nat) (xs : Nat → Int32) (j : Nat) : Prop :=
  Met l y wsy rm (va_Pc [.ref b, .int (nI j)] (fun U => va_X b L xs U U.heap)) (va_Qi (fun (r : Int32) (_ : Unit) => r = xs j) (fun _ _ => True) (fun _ => False)) 0 0 (fun _ => False)
set_option maxHeartbeats 4000000 in
set_option maxRecDepth 100000 in
theorem c_L_cell (l : Launch) (b L : Nat) (xs : Nat → Int32) (hL : L ≤ 260) (j : Nat) (hj : j < L) : zc_M l yL_cell wsL_cell ({ frames := 0, cells := 0, slots := 0, locals := 0 } : Room) b L xs j := by
  refine Met.ofW (cc := cL_cell) (maxL := 2) (ret := (some .int)) (by decide) rfl ?_
  intro p e s m args below meth c s₁ B hml hv
  obtain ⟨rfl, hX⟩ := hv
  have hx := B.exec
  have hb := B.bytes
  have hr := B.returns
  have hlocks := B.notSynchronized
  have hS : va_S (fun _ => False) s.heap s.heap [] := va_S.rf
  have hbl : b < s.heap.size := by
    obtain ⟨scr, h1, -⟩ := hX
    exact (Array.getElem?_eq_some_iff.mp h1).1
  have hl := lv_entry ([.ref b, .int (nI j)]) (n := 2) (Nat.le_of_ble_eq_true rfl)
  rw [lg_entry_eq]
  generalize (lg_sl ([.ref b, .int (nI j)]) ++ List.replicate (2 - (lg_sl ([.ref b, .int (nI j)])).length) Slot.unset).toArray = ls at hl ⊢
  have hl : lv_has ls 2 [(0, .ref b), (1, .int (nI j))] := hl
  refine lv_iload_n hx hb dL_cell_0 rfl (lv_at hl 1 rfl) ?_
  refine lv_aload_n hx hb dL_cell_1 rfl (lv_at hl 0 rfl) ?_
  refine va_slen hx hb hX hbl (fun h => h) hS dL_cell_2 ?_
  refine lv_icmp_ge (tgt := 12) hx hb dL_cell_3 (by decide) (fun c9 => absurd ((nI_leI (a := L) (b := j) (by omega) (by omega)).mp c9) (by omega)) (fun _ => ?_)
  refine lv_aload_n hx hb dL_cell_6 rfl (lv_at hl 0 rfl) ?_
  refine lv_iload_n hx hb dL_cell_7 rfl (lv_at hl 1 rfl) ?_
  refine va_sld hx hb hX hbl (fun h => h) hS (vp_in_nI hj (by omega)) dL_cell_8 ?_
  rw [nI_clamp (by omega)]
  refine lv_goto (tgt := 18) hx hb dL_cell_9 (by decide) ?_
  exact W.iret (v := xs j) hx hb hr (fun t ht hW => ⟨⟨_, (), rfl, rfl, trivial⟩, hS.F ht⟩) (fun q hq => (hS.2.2 q hq).elim) dL_cell_18
theorem zc_blind {as : List Value} {b L : Nat} {xs : Nat → Int32} : FrameBlind (va_Pc as (fun U => va_X b L xs U U.heap)) :=
  fun a U g mk q => ⟨q.1, va_X.moved (u := U) (U := U.calling g mk a) (Vm.Alike.refl U.vm) q.2⟩
section ZC
variable {p : Program} {l : Launch} {e : Env} {R : Room} {s : State} {m : MethodId} {args : Array Value} {below : List Frame} {meth : Method} {c : Code} {H : Heap} {locs : List Loc} {cells slots : Nat} {Q : State → Prop} {cc : ByteArray} {pc : Nat} {ls : Array Slot} {rest st0 : List Value}
variable {D : va_G} {ty : List (ClassId × FieldType)} {A : Nat → Prop} {ws : va_W} {y : MethodName} {bytes : ByteArray} {maxL nL index : Nat} {ret : Option FieldType} {wsy Ts : List Cond} {rm : Room} {own : String}
theorem zc_cSi {b9 L9 j9 : Nat} {xs : Nat → Int32} (S : CallFix p m c cc nL s args Ts own) (hM : zc_M l y wsy rm b9 L9 xs j9) (cw : CallB R s args own index y bytes maxL ret wsy rm 0 0 2 ∧ (Cond.static y).before args s = true)
    (hX : va_X b9 L9 xs s s.heap) (hbl : b9 < s.heap.size) (hbA : ¬ A b9) (hP : va_P D vwCl ws H) (hS : va_S A s.heap H locs) (hsz : ls.size = nL) (hst : st0 = .int (nI j9) :: .ref b9 :: rest) (hW : (rest.map fun v => v.category).sum ≤ 8) (hdg : decode cc pc = .ok (.invokestatic index, 3)) (hcs : cells ≤ R.cells ∧ slots ≤ R.slots)
    (kk : ∀ (H1 : Heap) (locs1 : List Loc), va_P D vwCl ws H1 → va_S A s.heap H1 locs1 → H.size ≤ H1.size → W p l e R s m args below meth c H1 locs1 cells slots Q (F0 m (pc + 3) ls (.int (xs j9) :: rest))) : W p l e R s m args below meth c H locs cells slots Q (F0 m pc ls st0) := by
  refine va_calli (va_runS (As := [.ref b9, .int (nI j9)]) (rest := rest) S hM cw ⟨zc_blind, fun U hU hW => ⟨rfl, (hX.moved hW.alike).kept (by rw [hU]; exact hS.2.1 b9 hbl hbA)⟩⟩ rfl rfl hsz hst (lv_room hW) hdg hcs) hS (fun q _ h => h.elim) (fun q h => h.elim) (fun r u t H1 locs1 ht hvm hw hB hz1 hk1 hS1 => ?_)
  subst hw
  exact kk H1 locs1 (hP.kept (fun k q hk => hk1 q.1 (vx_lt hP hk) (fun h => h))) hS1 hz1
end ZC
set_option maxHeartbeats 8000000 in
set_option maxRecDepth 100000 in
theorem law_tail {p : Program} {l : Launch} {e : Env} {s : State} {m : MethodId} {args : Array Value} {below : List Frame} {meth : Method} {c : Code} {Q : State → Prop} {A : Nat → Prop} {b i : Nat} {H : Heap} {locs : List Loc} {ls : Array Slot} (hl0 : l.stackTraces = false) (S : CallFix p m c cL_law 16 s args wsL_law RL) (hA : ∀ q, s.heap.size ≤ q → A q) (hE : zx_E s) (hH : zx_H A s s.heap) (dC : Nat → ClassId) (dI : Nat → Nat → Nat) (a v : Nat → Nat) (cI cZ cD : ClassId) (hK : va_K (dC, dI) vwCl (zq_T cI cZ cD) s) {ki pl tu le : Nat → Int32} {ch ca : Nat → UInt64} {N : Nat} {tk th hu od : Nat → Int32} {M : Nat} {ti : Int32} {be : Nat → Int32} {clk : Int32} {lL : Nat → Int32} {lC lF : Nat → UInt64} {lW lM lB lH lR lD lG : Nat → Int32} (hi : i < 104) (hNM : (N ≤ i + 1 ∧ N ≤ 5 ∧ (i + 1 ≤ N ∨ 5 ≤ N) ∧ M ≤ i + 1 - 5 ∧ M ≤ 5 ∧ (i + 1 - 5 ≤ M ∨ 5 ≤ M))) (h : zw_S N M ki pl tu ch ca th be lL lC lF lM lG) (hP : va_P (dC, dI) vwCl (wLw a v cI cZ cD ki pl tu le ch ca (nI N) tk th hu od (nI M) ti be clk lL lC lF lW lM lB lH lR lD lG) H) (hD : va_D A (wLw a v cI cZ cD ki pl tu le ch ca (nI N) tk th hu od (nI M) ti be clk lL lC lF lW lM lB lH lR lD lG)) (hS : va_S A s.heap H locs) (hl : lv_has ls 16 [(12, .int (nI i)), (0, .ref b), (1, .ref (a 0)), (2, .ref (v 1)), (3, .ref (v 2)), (4, .ref (v 3)), (5, .ref (v 4)), (6, .ref (v 5)), (7, .ref (v 6)), (8, .ref (v 7)), (9, .ref (v 8)), (10, .ref (v 9)), (11, .ref (v 10))]) (hG : s.heap.size + 3 * i + 1 ≤ H.size)
    (ih : ∀ (H : Heap) (locs : List Loc) (ls : Array Slot), zw_I (dC, dI) A s a v cI cZ cD b (i + 1) H locs ls → W p l e room2 s m args below meth c H locs (40 + 7 * (i + 1)) (1180 + 42 * (i + 1)) Q (F0 m 68 ls [])) : W p l e room2 s m args below meth c H locs (40 + 7 * i + 2) (1180 + 42 * i + 12) Q (F0 m 145 ls [.int 1]) := by
  obtain ⟨hx, hb, hml, hown, hts⟩ := id S
  obtain ⟨hg0, hg1, hth, hm0, hbe, hpl, htu, hch, hca, hki, hlL, hlC, hlF, hp, hc⟩ := id h
  refine lv_if_eq (tgt := 184) hx hb dL_law_145 (by decide) (fun c => absurd c (by decide)) (fun _ => ?_)
  refine lv_aload_n hx hb dL_law_148 rfl (lv_at hl 2 rfl) ?_
  refine lv_aload hx hb dL_law_149 (lv_at hl 7 rfl) ?_
  refine lv_aload hx hb dL_law_151 (lv_at hl 8 rfl) ?_
  refine lv_aload hx hb dL_law_153 (lv_at hl 9 rfl) ?_
  refine lv_aload hx hb dL_law_155 (lv_at hl 10 rfl) ?_
  refine lv_aload hx hb dL_law_157 (lv_at hl 11 rfl) ?_
  refine lv_aload hx hb dL_law_159 (lv_at hl 12 rfl) ?_
  refine zg_cSi (As := [.ref (a 0), .ref (v 5), .ref (v 6), .ref (v 7), .ref (v 8), .ref (v 9), .ref (v 10)]) (rest := []) (wc := (wLw a v cI cZ cD ki pl tu le ch ca (nI N) tk th hu od (nI M) ti be clk lL lC lF lW lM lB lH lR lD lG)) (w1 := (wLw a v cI cZ cD ki pl tu le ch ca (nI N) tk th hu od (nI M) ti be clk lL lC lF lW lM lB lH lR lD lG)) (wr := []) (ws' := (wLw a v cI cZ cD ki pl tu le ch ca (nI N) tk th hu od (nI M) ti be clk lL lC lF lW lM lB lH lR lD lG)) ⟨hx, hb, hml, hown, hts⟩ (c_L_isRead l hl0 dC dI a cI cZ cD ki pl tu le ch ca N tk th hu od M ti be clk (by omega) (by omega) v lL lC lF lW lM lB lH lR lD lG hg0 hg1 hth hm0 hbe H.size) (va_cwS 7 hts gL_law_L_isRead rfl rfl rfl (by decide +kernel) ⟨Nat.le_of_ble_eq_true rfl, Nat.le_of_ble_eq_true rfl⟩) hK hP hD hS hA (hH.kept hS.2.1) hE [0, 1, 2, 3, 4, 5, 6, 7, 8, 9, 10, 11, 12, 13, 14, 15, 16, 17, 18, 19, 20, 21, 22, 23, 24] [] [0, 1, 2, 3, 4, 5, 6, 7, 8, 9, 10, 11, 12, 13, 14, 15, 16, 17, 18, 19, 20, 21, 22, 23, 24] rfl rfl rfl rfl (by decide) rfl rfl rfl hl.1 rfl (Nat.le_of_ble_eq_true rfl) dL_law_161 ⟨show 40 + 7 * i + 2 + 1 ≤ 800 by omega, show 1180 + 42 * i + 12 + 6 ≤ 6000 by omega⟩ (fun H locs hP hD hS hG2 => ?_)
  refine lv_if_eq (tgt := 184) hx hb dL_law_164 (by decide) (fun c => absurd c (by decide)) (fun _ => ?_)
  refine lv_aload_n hx hb dL_law_167 rfl (lv_at hl 2 rfl) ?_
  refine lv_aload_n hx hb dL_law_168 rfl (lv_at hl 3 rfl) ?_
  refine lv_aload_n hx hb dL_law_169 rfl (lv_at hl 4 rfl) ?_
  refine lv_aload hx hb dL_law_170 (lv_at hl 5 rfl) ?_
  refine lv_aload hx hb dL_law_172 (lv_at hl 6 rfl) ?_
  refine lv_aload hx hb dL_law_174 (lv_at hl 7 rfl) ?_
  refine lv_aload hx hb dL_law_176 (lv_at hl 12 rfl) ?_
  refine zg_cSi (As := [.ref (a 0), .ref (v 1), .ref (v 2), .ref (v 3), .ref (v 4), .ref (v 5), .ref (v 10)]) (rest := []) (wc := (wLw a v cI cZ cD ki pl tu le ch ca (nI N) tk th hu od (nI M) ti be clk lL lC lF lW lM lB lH lR lD lG)) (w1 := (wLw a v cI cZ cD ki pl tu le ch ca (nI N) tk th hu od (nI M) ti be clk lL lC lF lW lM lB lH lR lD lG)) (wr := []) (ws' := (wLw a v cI cZ cD ki pl tu le ch ca (nI N) tk th hu od (nI M) ti be clk lL lC lF lW lM lB lH lR lD lG)) ⟨hx, hb, hml, hown, hts⟩ (c_L_isRacked l hl0 dC dI a cI cZ cD ki pl tu le ch ca N tk th hu od M ti be clk (by omega) (by omega) v lL lC lF lW lM lB lH lR lD lG hg0 hg1 hth hm0 hbe hpl (fun i _ => htu i) hch hca hki hlL hlC hlF hp hc H.size) (va_cwS 7 hts gL_law_L_isRacked rfl rfl rfl (by decide +kernel) ⟨Nat.le_of_ble_eq_true rfl, Nat.le_of_ble_eq_true rfl⟩) hK hP hD hS hA (hH.kept hS.2.1) hE [0, 1, 2, 3, 4, 5, 6, 7, 8, 9, 10, 11, 12, 13, 14, 15, 16, 17, 18, 19, 20, 21, 22, 23, 24] [] [0, 1, 2, 3, 4, 5, 6, 7, 8, 9, 10, 11, 12, 13, 14, 15, 16, 17, 18, 19, 20, 21, 22, 23, 24] rfl rfl rfl rfl (by decide) rfl rfl rfl hl.1 rfl (Nat.le_of_ble_eq_true rfl) dL_law_178 ⟨show 40 + 7 * i + 2 + 1 + 4 ≤ 800 by omega, show 1180 + 42 * i + 12 + 6 + 24 ≤ 6000 by omega⟩ (fun H locs hP hD hS hG3 => ?_)
  refine lv_if_ne (tgt := 186) hx hb dL_law_181 (by decide) (fun _ => ?_) (fun c => absurd (show (1 : Int32) = 0 from c) (by decide))
  refine lv_iinc (k := 0) (v := nI (i + 1)) (lv' := [(12, .int (nI (i + 1))), (0, .ref b), (1, .ref (a 0)), (2, .ref (v 1)), (3, .ref (v 2)), (4, .ref (v 3)), (5, .ref (v 4)), (6, .ref (v 5)), (7, .ref (v 6)), (8, .ref (v 7)), (9, .ref (v 8)), (10, .ref (v 9)), (11, .ref (v 10))]) hx hb dL_law_186 hl rfl (nI_add _ 1) (by decide) rfl (fun ls hl => ?_)
  refine lv_goto (tgt := 68) hx hb dL_law_189 (by decide) ?_
  refine W.widen (k := 40 + 7 * (i + 1)) (n := 1180 + 42 * (i + 1)) (by omega) (by omega) ?_
  exact ih _ _ _ ⟨ki, pl, tu, le, ch, ca, N, tk, th, hu, od, M, ti, be, clk, lL, lC, lF, lW, lM, lB, lH, lR, lD, lG, hNM, h, hP, hD, hS, hl, by omega⟩
set_option maxHeartbeats 8000000 in
set_option maxRecDepth 100000 in
theorem law_lamp {p : Program} {l : Launch} {e : Env} {s : State} {m : MethodId} {args : Array Value} {below : List Frame} {meth : Method} {c : Code} {Q : State → Prop} {A : Nat → Prop} {b i : Nat} {H : Heap} {locs : List Loc} {ls : Array Slot} (hl0 : l.stackTraces = false) (S : CallFix p m c cL_law 16 s args wsL_law RL) (hA : ∀ q, s.heap.size ≤ q → A q) (hE : zx_E s) (hH : zx_H A s s.heap) (dC : Nat → ClassId) (dI : Nat → Nat → Nat) (a v : Nat → Nat) (cI cZ cD : ClassId) (hK : va_K (dC, dI) vwCl (zq_T cI cZ cD) s) {ki pl tu le : Nat → Int32} {ch ca : Nat → UInt64} {N : Nat} {tk th hu od : Nat → Int32} {M : Nat} {ti : Int32} {be : Nat → Int32} {clk : Int32} {lL : Nat → Int32} {lC lF : Nat → UInt64} {lW lM lB lH lR lD lG : Nat → Int32} (hi : i < 104) (hNM : N = i) (hN5 : N < 5) (hM0 : M = 0) (h : zw_S N M ki pl tu ch ca th be lL lC lF lM lG) (hP : va_P (dC, dI) vwCl (wLw a v cI cZ cD ki pl tu le ch ca (nI N) tk th hu od (nI M) ti be clk lL lC lF lW lM lB lH lR lD lG) H) (hD : va_D A (wLw a v cI cZ cD ki pl tu le ch ca (nI N) tk th hu od (nI M) ti be clk lL lC lF lW lM lB lH lR lD lG)) (hS : va_S A s.heap H locs) (hl : lv_has ls 16 [(14, .int 10), (13, .int 26), (12, .int (nI i)), (0, .ref b), (1, .ref (a 0)), (2, .ref (v 1)), (3, .ref (v 2)), (4, .ref (v 3)), (5, .ref (v 4)), (6, .ref (v 5)), (7, .ref (v 6)), (8, .ref (v 7)), (9, .ref (v 8)), (10, .ref (v 9)), (11, .ref (v 10))]) (hG : s.heap.size + 3 * i ≤ H.size)
    (ih : ∀ (H : Heap) (locs : List Loc) (ls : Array Slot), zw_I (dC, dI) A s a v cI cZ cD b (i + 1) H locs ls → W p l e room2 s m args below meth c H locs (40 + 7 * (i + 1)) (1180 + 42 * (i + 1)) Q (F0 m 68 ls [])) : W p l e room2 s m args below meth c H locs (40 + 7 * i) (1180 + 42 * i) Q (F0 m 122 ls [.int 0, .ref (a 0)]) := by
  obtain ⟨hx, hb, hml, hown, hts⟩ := id S
  obtain ⟨hg0, hg1, hth, hm0, hbe, hpl, htu, hch, hca, hki, hlL, hlC, hlF, hp, hc⟩ := id h
  refine lv_iload hx hb dL_law_122 (lv_at hl 0 rfl) ?_
  refine lv_aload_n hx hb dL_law_124 rfl (lv_at hl 5 rfl) ?_
  refine lv_aload_n hx hb dL_law_125 rfl (lv_at hl 6 rfl) ?_
  refine lv_aload hx hb dL_law_126 (lv_at hl 7 rfl) ?_
  refine lv_aload hx hb dL_law_128 (lv_at hl 8 rfl) ?_
  refine lv_aload hx hb dL_law_130 (lv_at hl 9 rfl) ?_
  refine lv_aload hx hb dL_law_132 (lv_at hl 10 rfl) ?_
  refine lv_aload hx hb dL_law_134 (lv_at hl 11 rfl) ?_
  refine lv_aload hx hb dL_law_136 (lv_at hl 12 rfl) ?_
  refine lv_aload hx hb dL_law_138 (lv_at hl 13 rfl) ?_
  refine lv_aload hx hb dL_law_140 (lv_at hl 14 rfl) ?_
  refine zg_cSi (As := [.ref (a 0), .int 0, .int 10, .ref (v 1), .ref (v 2), .ref (v 3), .ref (v 4), .ref (v 5), .ref (v 6), .ref (v 7), .ref (v 8), .ref (v 9), .ref (v 10)]) (rest := []) (wc := (wLw a v cI cZ cD ki pl tu le ch ca (nI N) tk th hu od (nI M) ti be clk lL lC lF lW lM lB lH lR lD lG)) (w1 := (wLw a v cI cZ cD (upd ki N 2) (upd pl N 0) tu le (vf_upd ch N (la_new 2)) (vf_upd ca N (la_new 2)) (nI (N + 1)) tk th hu od (nI (M)) ti be clk (upd lL N 2) (vf_upd lC N 4626322717216342016) (vf_upd lF N 4626322717216342016) lW lM lB lH lR lD (upd lG 0 (nI (N + 1))))) (wr := []) (ws' := (wLw a v cI cZ cD (upd ki N 2) (upd pl N 0) tu le (vf_upd ch N (la_new 2)) (vf_upd ca N (la_new 2)) (nI (N + 1)) tk th hu od (nI (M)) ti be clk (upd lL N 2) (vf_upd lC N 4626322717216342016) (vf_upd lF N 4626322717216342016) lW lM lB lH lR lD (upd lG 0 (nI (N + 1))))) ⟨hx, hb, hml, hown, hts⟩ (c_L_keeps_lamp l hl0 dC dI a cI cZ cD ki pl tu le ch ca N tk th hu od M ti be clk (by omega) (by omega) v lL lC lF lW lM lB lH lR lD lG hg0 hg1 (by omega) H.size) (va_cwS 13 hts gL_law_L_keeps rfl rfl rfl (by decide +kernel) ⟨Nat.le_of_ble_eq_true rfl, Nat.le_of_ble_eq_true rfl⟩) hK hP hD hS hA (hH.kept hS.2.1) hE [0, 1, 2, 3, 4, 5, 6, 7, 8, 9, 10, 11, 12, 13, 14, 15, 16, 17, 18, 19, 20, 21, 22, 23, 24] [] [0, 1, 2, 3, 4, 5, 6, 7, 8, 9, 10, 11, 12, 13, 14, 15, 16, 17, 18, 19, 20, 21, 22, 23, 24] rfl rfl rfl rfl (by decide) rfl rfl rfl hl.1 rfl (Nat.le_of_ble_eq_true rfl) dL_law_142 ⟨show 40 + 7 * i + 1 ≤ 800 by omega, show 1180 + 42 * i + 6 ≤ 6000 by omega⟩ (fun H locs hP hD hS hG1 => ?_)
  have hl : lv_has ls 16 [(12, .int (nI i)), (0, .ref b), (1, .ref (a 0)), (2, .ref (v 1)), (3, .ref (v 2)), (4, .ref (v 3)), (5, .ref (v 4)), (6, .ref (v 5)), (7, .ref (v 6)), (8, .ref (v 7)), (9, .ref (v 8)), (10, .ref (v 9)), (11, .ref (v 10))] := lv_sub hl [2, 3, 4, 5, 6, 7, 8, 9, 10, 11, 12, 13, 14] rfl
  refine W.widen (k := 40 + 7 * i + 2) (n := 1180 + 42 * i + 12) (by omega) (by omega) ?_
  exact law_tail hl0 S hA hE hH dC dI a v cI cZ cD hK hi (by omega) h.lamp hP hD hS hl (by omega) ih
set_option maxHeartbeats 8000000 in
set_option maxRecDepth 100000 in
theorem law_miner {p : Program} {l : Launch} {e : Env} {s : State} {m : MethodId} {args : Array Value} {below : List Frame} {meth : Method} {c : Code} {Q : State → Prop} {A : Nat → Prop} {b i : Nat} {H : Heap} {locs : List Loc} {ls : Array Slot} (hl0 : l.stackTraces = false) (S : CallFix p m c cL_law 16 s args wsL_law RL) (hA : ∀ q, s.heap.size ≤ q → A q) (hE : zx_E s) (hH : zx_H A s s.heap) (dC : Nat → ClassId) (dI : Nat → Nat → Nat) (a v : Nat → Nat) (cI cZ cD : ClassId) (hK : va_K (dC, dI) vwCl (zq_T cI cZ cD) s) {ki pl tu le : Nat → Int32} {ch ca : Nat → UInt64} {N : Nat} {tk th hu od : Nat → Int32} {M : Nat} {ti : Int32} {be : Nat → Int32} {clk : Int32} {lL : Nat → Int32} {lC lF : Nat → UInt64} {lW lM lB lH lR lD lG : Nat → Int32} (hi : i < 104) (hNM : 5 ≤ i ∧ M = i - 5) (hN5 : N = 5) (hM5 : M < 5) (h : zw_S N M ki pl tu ch ca th be lL lC lF lM lG) (hP : va_P (dC, dI) vwCl (wLw a v cI cZ cD ki pl tu le ch ca (nI N) tk th hu od (nI M) ti be clk lL lC lF lW lM lB lH lR lD lG) H) (hD : va_D A (wLw a v cI cZ cD ki pl tu le ch ca (nI N) tk th hu od (nI M) ti be clk lL lC lF lW lM lB lH lR lD lG)) (hS : va_S A s.heap H locs) (hl : lv_has ls 16 [(14, .int 10), (13, .int 26), (12, .int (nI i)), (0, .ref b), (1, .ref (a 0)), (2, .ref (v 1)), (3, .ref (v 2)), (4, .ref (v 3)), (5, .ref (v 4)), (6, .ref (v 5)), (7, .ref (v 6)), (8, .ref (v 7)), (9, .ref (v 8)), (10, .ref (v 9)), (11, .ref (v 10))]) (hG : s.heap.size + 3 * i ≤ H.size)
    (ih : ∀ (H : Heap) (locs : List Loc) (ls : Array Slot), zw_I (dC, dI) A s a v cI cZ cD b (i + 1) H locs ls → W p l e room2 s m args below meth c H locs (40 + 7 * (i + 1)) (1180 + 42 * (i + 1)) Q (F0 m 68 ls [])) : W p l e room2 s m args below meth c H locs (40 + 7 * i) (1180 + 42 * i) Q (F0 m 122 ls [.int 4, .ref (a 0)]) := by
  obtain ⟨hx, hb, hml, hown, hts⟩ := id S
  obtain ⟨hg0, hg1, hth, hm0, hbe, hpl, htu, hch, hca, hki, hlL, hlC, hlF, hp, hc⟩ := id h
  refine lv_iload hx hb dL_law_122 (lv_at hl 0 rfl) ?_
  refine lv_aload_n hx hb dL_law_124 rfl (lv_at hl 5 rfl) ?_
  refine lv_aload_n hx hb dL_law_125 rfl (lv_at hl 6 rfl) ?_
  refine lv_aload hx hb dL_law_126 (lv_at hl 7 rfl) ?_
  refine lv_aload hx hb dL_law_128 (lv_at hl 8 rfl) ?_
  refine lv_aload hx hb dL_law_130 (lv_at hl 9 rfl) ?_
  refine lv_aload hx hb dL_law_132 (lv_at hl 10 rfl) ?_
  refine lv_aload hx hb dL_law_134 (lv_at hl 11 rfl) ?_
  refine lv_aload hx hb dL_law_136 (lv_at hl 12 rfl) ?_
  refine lv_aload hx hb dL_law_138 (lv_at hl 13 rfl) ?_
  refine lv_aload hx hb dL_law_140 (lv_at hl 14 rfl) ?_
  refine zg_cSi (As := [.ref (a 0), .int 4, .int 10, .ref (v 1), .ref (v 2), .ref (v 3), .ref (v 4), .ref (v 5), .ref (v 6), .ref (v 7), .ref (v 8), .ref (v 9), .ref (v 10)]) (rest := []) (wc := (wLw a v cI cZ cD ki pl tu le ch ca (nI N) tk th hu od (nI M) ti be clk lL lC lF lW lM lB lH lR lD lG)) (w1 := (wLw a v cI cZ cD ki pl tu le ch ca (nI (N)) (upd tk M 2) (upd th M (-1)) hu od (nI (M + 1)) ti be clk lL lC lF (upd lW M 2) (upd lM M 0) lB lH lR lD (upd lG 1 (nI (M + 1))))) (wr := []) (ws' := (wLw a v cI cZ cD ki pl tu le ch ca (nI (N)) (upd tk M 2) (upd th M (-1)) hu od (nI (M + 1)) ti be clk lL lC lF (upd lW M 2) (upd lM M 0) lB lH lR lD (upd lG 1 (nI (M + 1))))) ⟨hx, hb, hml, hown, hts⟩ (c_L_keeps_miner l hl0 dC dI a cI cZ cD ki pl tu le ch ca N tk th hu od M ti be clk (by omega) (by omega) v lL lC lF lW lM lB lH lR lD lG hg0 hg1 (by omega) H.size) (va_cwS 13 hts gL_law_L_keeps rfl rfl rfl (by decide +kernel) ⟨Nat.le_of_ble_eq_true rfl, Nat.le_of_ble_eq_true rfl⟩) hK hP hD hS hA (hH.kept hS.2.1) hE [0, 1, 2, 3, 4, 5, 6, 7, 8, 9, 10, 11, 12, 13, 14, 15, 16, 17, 18, 19, 20, 21, 22, 23, 24] [] [0, 1, 2, 3, 4, 5, 6, 7, 8, 9, 10, 11, 12, 13, 14, 15, 16, 17, 18, 19, 20, 21, 22, 23, 24] rfl rfl rfl rfl (by decide) rfl rfl rfl hl.1 rfl (Nat.le_of_ble_eq_true rfl) dL_law_142 ⟨show 40 + 7 * i + 1 ≤ 800 by omega, show 1180 + 42 * i + 6 ≤ 6000 by omega⟩ (fun H locs hP hD hS hG1 => ?_)
  have hl : lv_has ls 16 [(12, .int (nI i)), (0, .ref b), (1, .ref (a 0)), (2, .ref (v 1)), (3, .ref (v 2)), (4, .ref (v 3)), (5, .ref (v 4)), (6, .ref (v 5)), (7, .ref (v 6)), (8, .ref (v 7)), (9, .ref (v 8)), (10, .ref (v 9)), (11, .ref (v 10))] := lv_sub hl [2, 3, 4, 5, 6, 7, 8, 9, 10, 11, 12, 13, 14] rfl
  refine W.widen (k := 40 + 7 * i + 2) (n := 1180 + 42 * i + 12) (by omega) (by omega) ?_
  exact law_tail hl0 S hA hE hH dC dI a v cI cZ cD hK hi (by omega) h.miner hP hD hS hl (by omega) ih
set_option maxHeartbeats 8000000 in
set_option maxRecDepth 100000 in
theorem law_test {p : Program} {l : Launch} {e : Env} {s : State} {m : MethodId} {args : Array Value} {below : List Frame} {meth : Method} {c : Code} {Q : State → Prop} {A : Nat → Prop} {b i : Nat} {H : Heap} {locs : List Loc} {ls : Array Slot} (hl0 : l.stackTraces = false) (S : CallFix p m c cL_law 16 s args wsL_law RL) (hA : ∀ q, s.heap.size ≤ q → A q) (hE : zx_E s) (hH : zx_H A s s.heap) (dC : Nat → ClassId) (dI : Nat → Nat → Nat) (a v : Nat → Nat) (cI cZ cD : ClassId) (hK : va_K (dC, dI) vwCl (zq_T cI cZ cD) s) {ki pl tu le : Nat → Int32} {ch ca : Nat → UInt64} {N : Nat} {tk th hu od : Nat → Int32} {M : Nat} {ti : Int32} {be : Nat → Int32} {clk : Int32} {lL : Nat → Int32} {lC lF : Nat → UInt64} {lW lM lB lH lR lD lG : Nat → Int32} (hi : i < 104) (hNM : 10 ≤ i) (hN5 : N = 5) (hM5 : M = 5) (h : zw_S N M ki pl tu ch ca th be lL lC lF lM lG) (hP : va_P (dC, dI) vwCl (wLw a v cI cZ cD ki pl tu le ch ca (nI N) tk th hu od (nI M) ti be clk lL lC lF lW lM lB lH lR lD lG) H) (hD : va_D A (wLw a v cI cZ cD ki pl tu le ch ca (nI N) tk th hu od (nI M) ti be clk lL lC lF lW lM lB lH lR lD lG)) (hS : va_S A s.heap H locs) (hl : lv_has ls 16 [(14, .int 10), (13, .int 26), (12, .int (nI i)), (0, .ref b), (1, .ref (a 0)), (2, .ref (v 1)), (3, .ref (v 2)), (4, .ref (v 3)), (5, .ref (v 4)), (6, .ref (v 5)), (7, .ref (v 6)), (8, .ref (v 7)), (9, .ref (v 8)), (10, .ref (v 9)), (11, .ref (v 10))]) (hG : s.heap.size + 3 * i ≤ H.size)
    (ih : ∀ (H : Heap) (locs : List Loc) (ls : Array Slot), zw_I (dC, dI) A s a v cI cZ cD b (i + 1) H locs ls → W p l e room2 s m args below meth c H locs (40 + 7 * (i + 1)) (1180 + 42 * (i + 1)) Q (F0 m 68 ls [])) : W p l e room2 s m args below meth c H locs (40 + 7 * i) (1180 + 42 * i) Q (F0 m 122 ls [.int 26, .ref (a 0)]) := by
  obtain ⟨hx, hb, hml, hown, hts⟩ := id S
  obtain ⟨hg0, hg1, hth, hm0, hbe, hpl, htu, hch, hca, hki, hlL, hlC, hlF, hp, hc⟩ := id h
  refine lv_iload hx hb dL_law_122 (lv_at hl 0 rfl) ?_
  refine lv_aload_n hx hb dL_law_124 rfl (lv_at hl 5 rfl) ?_
  refine lv_aload_n hx hb dL_law_125 rfl (lv_at hl 6 rfl) ?_
  refine lv_aload hx hb dL_law_126 (lv_at hl 7 rfl) ?_
  refine lv_aload hx hb dL_law_128 (lv_at hl 8 rfl) ?_
  refine lv_aload hx hb dL_law_130 (lv_at hl 9 rfl) ?_
  refine lv_aload hx hb dL_law_132 (lv_at hl 10 rfl) ?_
  refine lv_aload hx hb dL_law_134 (lv_at hl 11 rfl) ?_
  refine lv_aload hx hb dL_law_136 (lv_at hl 12 rfl) ?_
  refine lv_aload hx hb dL_law_138 (lv_at hl 13 rfl) ?_
  refine lv_aload hx hb dL_law_140 (lv_at hl 14 rfl) ?_
  refine zg_cSi (As := [.ref (a 0), .int 26, .int 10, .ref (v 1), .ref (v 2), .ref (v 3), .ref (v 4), .ref (v 5), .ref (v 6), .ref (v 7), .ref (v 8), .ref (v 9), .ref (v 10)]) (rest := []) (wc := (wLw a v cI cZ cD ki pl tu le ch ca (nI N) tk th hu od (nI M) ti be clk lL lC lF lW lM lB lH lR lD lG)) (w1 := (wLw a v cI cZ cD ki pl tu le ch ca (nI N) tk th hu od (nI M) ti be clk lL lC lF lW lM lB lH lR lD lG)) (wr := []) (ws' := (wLw a v cI cZ cD ki pl tu le ch ca (nI N) tk th hu od (nI M) ti be clk lL lC lF lW lM lB lH lR lD lG)) ⟨hx, hb, hml, hown, hts⟩ (c_L_keeps_test l hl0 dC dI a cI cZ cD ki pl tu le ch ca N tk th hu od M ti be clk (by omega) (by omega) v lL lC lF lW lM lB lH lR lD lG hg0 hg1 hN5 H.size) (va_cwS 13 hts gL_law_L_keeps rfl rfl rfl (by decide +kernel) ⟨Nat.le_of_ble_eq_true rfl, Nat.le_of_ble_eq_true rfl⟩) hK hP hD hS hA (hH.kept hS.2.1) hE [0, 1, 2, 3, 4, 5, 6, 7, 8, 9, 10, 11, 12, 13, 14, 15, 16, 17, 18, 19, 20, 21, 22, 23, 24] [] [0, 1, 2, 3, 4, 5, 6, 7, 8, 9, 10, 11, 12, 13, 14, 15, 16, 17, 18, 19, 20, 21, 22, 23, 24] rfl rfl rfl rfl (by decide) rfl rfl rfl hl.1 rfl (Nat.le_of_ble_eq_true rfl) dL_law_142 ⟨show 40 + 7 * i + 2 ≤ 800 by omega, show 1180 + 42 * i + 12 ≤ 6000 by omega⟩ (fun H locs hP hD hS hG1 => ?_)
  have hl : lv_has ls 16 [(12, .int (nI i)), (0, .ref b), (1, .ref (a 0)), (2, .ref (v 1)), (3, .ref (v 2)), (4, .ref (v 3)), (5, .ref (v 4)), (6, .ref (v 5)), (7, .ref (v 6)), (8, .ref (v 7)), (9, .ref (v 8)), (10, .ref (v 9)), (11, .ref (v 10))] := lv_sub hl [2, 3, 4, 5, 6, 7, 8, 9, 10, 11, 12, 13, 14] rfl
  exact law_tail hl0 S hA hE hH dC dI a v cI cZ cD hK hi (by omega) h hP hD hS hl (by omega) ih
set_option maxHeartbeats 8000000 in
set_option maxRecDepth 100000 in
theorem law_turn {p : Program} {l : Launch} {e : Env} {s : State} {m : MethodId} {args : Array Value} {below : List Frame} {meth : Method} {c : Code} {Q : State → Prop} {A : Nat → Prop} {b i : Nat} {H : Heap} {locs : List Loc} {ls : Array Slot} {L : Nat} {xs : Nat → Int32} (hl0 : l.stackTraces = false) (S : CallFix p m c cL_law 16 s args wsL_law RL) (hA : ∀ q, s.heap.size ≤ q → A q) (hE : zx_E s) (hH : zx_H A s s.heap) (dC : Nat → ClassId) (dI : Nat → Nat → Nat) (a v : Nat → Nat) (cI cZ cD : ClassId) (hK : va_K (dC, dI) vwCl (zq_T cI cZ cD) s) (hX : va_X b L xs s s.heap) (hbl : b < s.heap.size) (hbA : ¬ A b) (hL : L ≤ 260) (h208 : 208 ≤ L) (hxs : ∀ j, j < 104 → xs (2 * j) = 26 ∧ xs (2 * j + 1) = 10) (hi : i < 104) (h0 : zw_I (dC, dI) A s a v cI cZ cD b i H locs ls)
    (ih : ∀ (H : Heap) (locs : List Loc) (ls : Array Slot), zw_I (dC, dI) A s a v cI cZ cD b (i + 1) H locs ls → W p l e room2 s m args below meth c H locs (40 + 7 * (i + 1)) (1180 + 42 * (i + 1)) Q (F0 m 68 ls [])) : W p l e room2 s m args below meth c H locs (40 + 7 * i) (1180 + 42 * i) Q (F0 m 68 ls []) := by
  obtain ⟨ki, pl, tu, le, ch, ca, N, tk, th, hu, od, M, ti, be, clk, lL, lC, lF, lW, lM, lB, lH, lR, lD, lG, hNM, h, hP, hD, hS, hl, hG⟩ := h0
  obtain ⟨hx, hb, hml, hown, hts⟩ := id S
  obtain ⟨hx1, hx2⟩ := hxs i hi
  refine lv_iload hx hb dL_law_68 (lv_at hl 0 rfl) ?_
  refine lv_sipush (v := 160) hx hb dL_law_70 (by decide) ?_
  refine lv_icmp_ge (tgt := 192) hx hb dL_law_73 (by decide) (fun c9 => absurd ((nI_leI (a := 160) (b := i) (by omega) (by omega)).mp c9) (by omega)) (fun _ => ?_)
  refine lv_aload_n hx hb dL_law_76 rfl (lv_at hl 1 rfl) ?_
  refine lv_iconst (v := 2) hx hb dL_law_77 (by decide) ?_
  refine lv_iload hx hb dL_law_78 (lv_at hl 0 rfl) ?_
  refine t_imul hx hb dL_law_80 (v := nI (2 * i)) (pk_mul 2 _) ?_
  refine zc_cSi (rest := []) ⟨hx, hb, hml, hown, hts⟩ (c_L_cell l b L xs hL (2 * i) (by omega)) (va_cwS 2 hts gL_law_L_cell rfl rfl rfl (by decide +kernel) ⟨Nat.le_of_ble_eq_true rfl, Nat.le_of_ble_eq_true rfl⟩) hX hbl hbA hP hS hl.1 rfl (Nat.le_of_ble_eq_true rfl) dL_law_81 ⟨show 40 + 7 * i ≤ 800 by omega, show 1180 + 42 * i ≤ 6000 by omega⟩ (fun H locs hP hS hz76 => ?_)
  rw [hx1]
  refine lv_istore (lv' := [(13, .int 26), (12, .int (nI i)), (0, .ref b), (1, .ref (a 0)), (2, .ref (v 1)), (3, .ref (v 2)), (4, .ref (v 3)), (5, .ref (v 4)), (6, .ref (v 5)), (7, .ref (v 6)), (8, .ref (v 7)), (9, .ref (v 8)), (10, .ref (v 9)), (11, .ref (v 10))]) hx hb dL_law_84 hl (by decide) rfl (fun ls hl => ?_)
  refine lv_aload_n hx hb dL_law_86 rfl (lv_at hl 2 rfl) ?_
  refine lv_iconst (v := 2) hx hb dL_law_87 (by decide) ?_
  refine lv_iload hx hb dL_law_88 (lv_at hl 1 rfl) ?_
  refine t_imul hx hb dL_law_90 (v := nI (2 * i)) (pk_mul 2 _) ?_
  refine lv_iconst (v := 1) hx hb dL_law_91 (by decide) ?_
  refine t_iadd hx hb dL_law_92 (v := nI (2 * i + 1)) (nI_1 _) ?_
  refine zc_cSi (rest := []) ⟨hx, hb, hml, hown, hts⟩ (c_L_cell l b L xs hL (2 * i + 1) (by omega)) (va_cwS 2 hts gL_law_L_cell rfl rfl rfl (by decide +kernel) ⟨Nat.le_of_ble_eq_true rfl, Nat.le_of_ble_eq_true rfl⟩) hX hbl hbA hP hS hl.1 rfl (Nat.le_of_ble_eq_true rfl) dL_law_93 ⟨show 40 + 7 * i ≤ 800 by omega, show 1180 + 42 * i ≤ 6000 by omega⟩ (fun H locs hP hS hz86 => ?_)
  rw [hx2]
  refine lv_istore (lv' := [(14, .int 10), (13, .int 26), (12, .int (nI i)), (0, .ref b), (1, .ref (a 0)), (2, .ref (v 1)), (3, .ref (v 2)), (4, .ref (v 3)), (5, .ref (v 4)), (6, .ref (v 5)), (7, .ref (v 6)), (8, .ref (v 7)), (9, .ref (v 8)), (10, .ref (v 9)), (11, .ref (v 10))]) hx hb dL_law_96 hl (by decide) rfl (fun ls hl => ?_)
  refine lv_aload_n hx hb dL_law_98 rfl (lv_at hl 4 rfl) ?_
  refine lv_iload hx hb dL_law_99 (lv_at hl 2 rfl) ?_
  refine lv_iconst (v := 5) hx hb dL_law_101 (by decide) ?_
  refine lv_icmp_ge (tgt := 109) hx hb dL_law_102 (by decide) (fun c9 => ?_) (fun c9 => ?_)
  · have d9 := (nI_leI (a := 5) (b := i) (by omega) (by omega)).mp c9
    refine lv_iload hx hb dL_law_109 (lv_at hl 2 rfl) ?_
    refine lv_bipush (v := 10) hx hb dL_law_111 (by decide) ?_
    refine lv_icmp_ge (tgt := 120) hx hb dL_law_113 (by decide) (fun c8 => ?_) (fun c8 => ?_)
    · have d8 := (nI_leI (a := 10) (b := i) (by omega) (by omega)).mp c8
      refine lv_iload hx hb dL_law_120 (lv_at hl 1 rfl) ?_
      exact law_test hl0 S hA hE hH dC dI a v cI cZ cD hK hi (by omega) (by omega) (by omega) h hP hD hS hl (by omega) ih
    · have d8 := Nat.not_le.mp (fun h => c8 ((nI_leI (a := 10) (b := i) (by omega) (by omega)).mpr h))
      refine lv_iconst (v := 4) hx hb dL_law_116 (by decide) ?_
      refine lv_goto (tgt := 122) hx hb dL_law_117 (by decide) ?_
      exact law_miner hl0 S hA hE hH dC dI a v cI cZ cD hK hi (by omega) (by omega) (by omega) h hP hD hS hl (by omega) ih
  · have d9 := Nat.not_le.mp (fun h => c9 ((nI_leI (a := 5) (b := i) (by omega) (by omega)).mpr h))
    refine lv_iconst (v := 0) hx hb dL_law_105 (by decide) ?_
    refine lv_goto (tgt := 122) hx hb dL_law_106 (by decide) ?_
    exact law_lamp hl0 S hA hE hH dC dI a v cI cZ cD hK hi (by omega) (by omega) (by omega) h hP hD hS hl (by omega) ih
theorem law_loop {p : Program} {l : Launch} {e : Env} {s : State} {m : MethodId} {args : Array Value} {below : List Frame} {meth : Method} {c : Code} {Q : State → Prop} {A : Nat → Prop} {b : Nat} {L : Nat} {xs : Nat → Int32} (hl0 : l.stackTraces = false) (S : CallFix p m c cL_law 16 s args wsL_law RL) (hA : ∀ q, s.heap.size ≤ q → A q) (hE : zx_E s) (hH : zx_H A s s.heap) (dC : Nat → ClassId) (dI : Nat → Nat → Nat) (a v : Nat → Nat) (cI cZ cD : ClassId) (hK : va_K (dC, dI) vwCl (zq_T cI cZ cD) s) (hX : va_X b L xs s s.heap) (hbl : b < s.heap.size) (hbA : ¬ A b) (hL : L ≤ 260) (h208 : 208 ≤ L) (hxs : ∀ j, j < 104 → xs (2 * j) = 26 ∧ xs (2 * j + 1) = 10)
    (hend : ∀ (H : Heap) (locs : List Loc) (ls : Array Slot), s.heap.size + 312 ≤ H.size → W p l e room2 s m args below meth c H locs 768 5548 Q (F0 m 68 ls [])) :
    ∀ (n i : Nat), i + n = 104 → ∀ (H : Heap) (locs : List Loc) (ls : Array Slot), zw_I (dC, dI) A s a v cI cZ cD b i H locs ls → W p l e room2 s m args below meth c H locs (40 + 7 * i) (1180 + 42 * i) Q (F0 m 68 ls []) := by
  intro n
  induction n with
  | zero =>
    intro i hi H locs ls h0
    have e9 : i = 104 := by omega
    subst e9
    obtain ⟨ki, pl, tu, le, ch, ca, N, tk, th, hu, od, M, ti, be, clk, lL, lC, lF, lW, lM, lB, lH, lR, lD, lG, hNM, h, hP, hD, hS, hl, hG⟩ := h0
    exact hend H locs ls (by omega)
  | succ n ihn =>
    intro i hi H locs ls h0
    exact law_turn hl0 S hA hE hH dC dI a v cI cZ cD hK hX hbl hbA hL h208 hxs (by omega) h0 (ihn (i + 1) (by omega))
end
section
/-! from the entry to the loop -/
theorem lx_str {args : Array Value} {s : State} {k : Nat} {tx : String} (h1 : (Cond.stringRef RX3 k tx).before args s = true) (h2 : (Cond.exactly (.string RX3 k) "java/lang/String").before args s = true) : zx_R k tx s := by
  obtain ⟨a, c, cell, k9, q1, -⟩ := Cond.exactly_spec (args := args) (first := s) (o := none) (s := s) (idx := []) (t := .string RX3 k) (cls := "java/lang/String") h2
  exact ⟨a, vk_R.of h1 q1⟩
set_option maxRecDepth 20000 in
theorem lx_E {s : State} {b : Nat} (ht : ∀ w ∈ lw_tbl, w.before #[Value.ref b] s = true) (hgv : (Jvm.Cond.and given_1 narrow_1).before #[Value.ref b] s = true) : zx_E s := by
  have hn := flat_of_before _ hgv
  refine ⟨⟨⟨⟨va_Nw.of rfl (ht (.castable zx_A zx_A) (by decide +kernel)), va_Nw.of rfl (ht (.castable zx_S zx_S) (by decide +kernel)), va_Nw.of rfl (ht (.castable zx_I zx_I) (by decide +kernel))⟩, va_Nc.of (hn (.not (.castable zx_S zx_A)) (by decide +kernel)), va_Nc.of (hn (.not (.castable zx_S zx_I)) (by decide +kernel))⟩, va_Nw.of rfl (ht zx_d1 (by decide +kernel)), va_Nw.of rfl (ht zx_d2 (by decide +kernel)), va_Nw.of rfl (ht zx_d3 (by decide +kernel))⟩, ?_, ?_, ?_, ?_, ?_, ?_, ?_, ?_, ?_, ?_, ?_⟩
  · exact lx_str (ht (.stringRef RX3 147 "there is no such class") (by decide +kernel)) (hn (.exactly (.string RX3 147) "java/lang/String") (by decide +kernel))
  · exact lx_str (ht (.stringRef RX3 44 "there are 40 lamps") (by decide +kernel)) (hn (.exactly (.string RX3 44) "java/lang/String") (by decide +kernel))
  · exact lx_str (ht (.stringRef RX3 54 "there are 30 miners") (by decide +kernel)) (hn (.exactly (.string RX3 54) "java/lang/String") (by decide +kernel))
  · exact lx_str (ht (.stringRef RX3 151 "there is no such miner") (by decide +kernel)) (hn (.exactly (.string RX3 151) "java/lang/String") (by decide +kernel))
  · exact lx_str (ht (.stringRef RX3 65 "the tally is on the board") (by decide +kernel)) (hn (.exactly (.string RX3 65) "java/lang/String") (by decide +kernel))
  · exact lx_str (ht (.stringRef RX3 73 "there is no lamp") (by decide +kernel)) (hn (.exactly (.string RX3 73) "java/lang/String") (by decide +kernel))
  · exact lx_str (ht (.stringRef RX3 83 "the tally is not on the board") (by decide +kernel)) (hn (.exactly (.string RX3 83) "java/lang/String") (by decide +kernel))
  · exact lx_str (ht (.stringRef RX3 154 "there is no such lamp") (by decide +kernel)) (hn (.exactly (.string RX3 154) "java/lang/String") (by decide +kernel))
  · exact lx_str (ht (.stringRef RX3 103 "the lamp is not on the rack") (by decide +kernel)) (hn (.exactly (.string RX3 103) "java/lang/String") (by decide +kernel))
  · exact lx_str (ht (.stringRef RX3 108 "the lamp is not set aside") (by decide +kernel)) (hn (.exactly (.string RX3 108) "java/lang/String") (by decide +kernel))
  · exact lx_str (ht (.stringRef RX3 115 "hours must be 1 to 100") (by decide +kernel)) (hn (.exactly (.string RX3 115) "java/lang/String") (by decide +kernel))
set_option maxRecDepth 20000 in
theorem lx_H {s : State} {b : Nat} (ht : ∀ w ∈ lw_tbl, w.before #[Value.ref b] s = true) (hgv : (Jvm.Cond.and given_1 narrow_1).before #[Value.ref b] s = true) : zx_H (fun q : Nat => s.heap.size ≤ q) s s.heap := by
  have hn := flat_of_before _ hgv
  exact ⟨vx_Zqof (ht (.laysStatic Bundle.tN "UNASSIGNED_STACK" Bundle.steD) (by decide +kernel)) (ht (.initialized Bundle.tN) (by decide +kernel)) (hn (.isRef (.static Bundle.tN "UNASSIGNED_STACK" Bundle.steD)) (by decide +kernel)) (fun a h => Nat.not_le.mpr h),
    vx_Zqof (ht (.laysStatic Bundle.tN "SUPPRESSED_SENTINEL" Bundle.listD) (by decide +kernel)) (ht (.initialized Bundle.tN) (by decide +kernel)) (hn (.isRef (.static Bundle.tN "SUPPRESSED_SENTINEL" Bundle.listD)) (by decide +kernel)) (fun a h => Nat.not_le.mpr h)⟩
set_option maxRecDepth 20000 in
theorem lx_W {s : State} {b : Nat} (ht : ∀ w ∈ lw_tbl, w.before #[Value.ref b] s = true) : zn_W s :=
  ⟨va_Nw.of rfl (ht (.methodLinkNest RX3 9 yX1_init RX3) (by decide +kernel)), va_Nw.of rfl (ht (.methodLinkNest RX3 18 yX2_init RX3) (by decide +kernel)), va_Nw.of rfl (ht (.methodLinkNest RX3 25 yX0_init RX3) (by decide +kernel))⟩
theorem lx_arr {args : Array Value} {s : State} {ty : FieldType} (h : (Cond.arrayClass ty).before args s = true) : ∃ cA : ClassId, ArrOfT s cA ty ∧ s.vm.findClass ("[" ++ ty.toString) = some cA := by
  obtain ⟨cA, kA, comp, h1, h2, h3⟩ := Cond.arrayClass_spec (args := args) (first := s) (o := none) (s := s) (idx := []) h
  exact ⟨cA, fun n z => ⟨fun k h => (by cases h), kA, h2, comp, h3⟩, h1⟩
set_option maxHeartbeats 8000000 in
set_option maxRecDepth 100000 in
theorem big_start {p : Program} {e : Env} {s : State} {m : MethodId} {below : List Frame} {meth : Method} {c : Code} (l : Launch) (hflags : l.flags = flags0) {b L : Nat} {xs : Nat → Int32} (hL : L ≤ 260) (h208 : 208 ≤ L) (hxs : ∀ j, j < 104 → xs (2 * j) = 26 ∧ xs (2 * j + 1) = 10) (hx : p.tables.exec = Jvm.exec) (hb : c.code = code) (hml : c.maxLocals = 16) (hown : s.vm.findClass RL = some m.cls) (htl : ∀ w ∈ lw_tbl, w.before #[Value.ref b] s = true) (hX : va_X b L xs s s.heap) (hbl : b < s.heap.size) (hgv : (Jvm.Cond.and given_1 narrow_1).before #[Value.ref b] s = true) : W p l e room2 s m #[Value.ref b] below meth c s.heap [] 0 0 (fun t => s.heap.size + 312 ≤ t.heap.size) (entryFrame m ([Value.ref b] : List Value).toArray 16) := by
  have hts : ∀ w ∈ wsL_law, w.before #[Value.ref b] s = true := fun w h => htl w (wsL_law_in w h)
  have hl0 : l.stackTraces = false := by
    unfold Launch.stackTraces
    rw [hflags]
    decide +kernel
  have hS9 : CallFix p m c cL_law 16 s #[Value.ref b] wsL_law RL := ⟨hx, hb, hml, hown, hts⟩
  have hA : ∀ q : Nat, s.heap.size ≤ q → (fun q : Nat => s.heap.size ≤ q) q := fun _ h => h
  have hbA : ¬ (fun q : Nat => s.heap.size ≤ q) b := Nat.not_le.mpr hbl
  obtain ⟨c0, iS0, hKn0⟩ := u_known (C := RX0) (T := TX0) (N := 1) (n := 1) hts inlX0 (htl (.instantiable RX0 1) (by decide +kernel))
  obtain ⟨c1, iS1, hKn1⟩ := u_known (C := RX1) (T := TX1) (N := 7) (n := 7) hts inlX1 (htl (.instantiable RX1 7) (by decide +kernel))
  obtain ⟨c2, iS2, hKn2⟩ := u_known (C := RX2) (T := TX2) (N := 6) (n := 6) hts inlX2 (htl (.instantiable RX2 6) (by decide +kernel))
  obtain ⟨c3, iS3, hKn3⟩ := u_known (C := RX3) (T := TX3) (N := 4) (n := 4) hts inlX3 (htl (.instantiable RX3 4) (by decide +kernel))
  obtain ⟨dC, dI, hKc⟩ : ∃ (dC : Nat → ClassId) (dI : Nat → Nat → Nat), ∀ (k : Nat) (q : vw_C), vwCl[k]? = some q → u_Kn s q.1 q.2.1 q.2.2 (dC k) (dI k) := by
    refine ⟨fun k => if k = 0 then c0 else if k = 1 then c1 else if k = 2 then c2 else c3, fun k => if k = 0 then iS0 else if k = 1 then iS1 else if k = 2 then iS2 else iS3, ?_⟩
    intro k q hq
    match k, hq with
    | 0, hq => cases hq; exact hKn0
    | 1, hq => cases hq; exact hKn1
    | 2, hq => cases hq; exact hKn2
    | 3, hq => cases hq; exact hKn3
    | k + 4, hq => simp [vwCl] at hq
  obtain ⟨cI, hAcI, hFcI⟩ := lx_arr (htl (.arrayClass .int) (by decide +kernel))
  obtain ⟨cZ, hAcZ, hFcZ⟩ := lx_arr (htl (.arrayClass .boolean) (by decide +kernel))
  obtain ⟨cD, hAcD, hFcD⟩ := lx_arr (htl (.arrayClass .double) (by decide +kernel))
  have hK : va_K (dC, dI) vwCl (zq_T cI cZ cD) s := ⟨hKc, fun k q hq => by
    match k, hq with
    | 0, hq => cases hq; exact ⟨hAcI, hFcI⟩
    | 1, hq => cases hq; exact ⟨hAcZ, hFcZ⟩
    | 2, hq => cases hq; exact ⟨hAcD, hFcD⟩
    | k + 3, hq => simp at hq⟩
  have hE := lx_E htl hgv
  have hH := lx_H htl hgv
  have hWn := lx_W htl
  have hS : va_S (fun q : Nat => s.heap.size ≤ q) s.heap s.heap [] := va_S.rf
  have hP : va_P (dC, dI) vwCl [] s.heap := zq_P0
  have hD : va_D (fun q : Nat => s.heap.size ≤ q) [] := ⟨fun i j p q h => by simp at h, fun k q h => by simp at h⟩
  have hl := lv_entry ([.ref b]) (n := 16) (Nat.le_of_ble_eq_true rfl)
  rw [lg_entry_eq]
  generalize (lg_sl ([.ref b]) ++ List.replicate (16 - (lg_sl ([.ref b])).length) Slot.unset).toArray = ls at hl ⊢
  have hl : lv_has ls 16 [(0, .ref b)] := hl
  refine va_new (ci := 3) (fs := [.null, .null, .null, .int 0]) (C := RX3) (T := TX3) (N := 4) hx hb hts inlX3 tyX3 tyX3_ok hown (htl (.classLink RL 9 RX3) (by decide +kernel)) (htl (.instantiable RX3 4) (by decide +kernel)) (htl (.initialized RX3) (by decide +kernel)) hK hP hD hS hA rfl (fun j hj => by rcases (show j = 0 ∨ j = 1 ∨ j = 2 ∨ j = 3 by omega) with rfl | rfl | rfl | rfl <;> rfl) (Nat.le_of_ble_eq_true rfl) (Nat.le_of_ble_eq_true rfl) dL_law_0 (fun q1 H hP hD hS => ?_)
  have hP : va_P (dC, dI) vwCl [(q1, .inr (3, [.null, .null, .null, .int 0]))] H := hP
  have hD : va_D (fun q : Nat => s.heap.size ≤ q) [(q1, .inr (3, [.null, .null, .null, .int 0]))] := hD
  refine W.widen (k := 1) (n := 4) (by omega) (by omega) ?_
  refine lv_dup hx hb dL_law_3 rfl ?_
  have hFc := va_free (wc := [(q1, .inr (3, [.null, .null, .null, .int 0]))]) hD hS hA [0] rfl
  refine va_callv (va_runI (As := []) (rest := [.ref q1]) hS9 (c_X3_init l dC dI cI cZ cD q1 H.size) (cwI 0 hts gL_law_X3_init rfl rfl rfl (htl (.initialized RX3) (by decide +kernel)) (htl (.methodLink RL 138 yX3_init) (by decide +kernel)) (htl (.instanceMethod yX3_init) (by decide +kernel)) rfl (by decide +kernel) ⟨(Nat.le_of_ble_eq_true rfl), (Nat.le_of_ble_eq_true rfl)⟩) ⟨fun a U g mk q => by obtain ⟨q0, ⟨q1, qP, qK, qD⟩, qW⟩ := q; exact ⟨q0, ⟨q1, qP, va_K.moved (u := U) (U := U.calling g mk a) (Vm.Alike.refl U.vm) qK, qD⟩, zn_W.same rfl qW⟩, fun U hU hW => ⟨rfl, (zq_pre (As := []) hK hP hD [0] rfl rfl U hU hW).2, zn_W.warm hW hWn⟩⟩ rfl rfl hl.1 rfl (lv_room (Nat.le_of_ble_eq_true rfl)) dL_law_4 ⟨(Nat.le_of_ble_eq_true rfl), (Nat.le_of_ble_eq_true rfl)⟩) hS (fun q _ h => hFc q h) hFc (fun u t H1 locs ht hvm hw hB hz1 hk1 hS => ?_)
  obtain ⟨hP1, -, hD1⟩ := hB
  rw [ht] at hP1
  obtain ⟨hP8, hD8⟩ := va_join (wr := []) (w1 := (wRo u cI cZ cD (fun _ => 0) (fun _ => 0) (fun _ => 0) (fun _ => 0) (fun _ => 0) (fun _ => 0) (nI 0) (fun _ => 0) (fun _ => 0) (fun _ => 0) (fun _ => 0) (nI 0) (nI 0) (fun _ => 0) (nI 0))) hP hD [0] [] rfl rfl (by decide) (by decide) hk1 hFc hP1 hD1
  have hw : u 0 = q1 := hw
  subst hw
  have hS := hS
  generalize H1 = H at hP8 hS ⊢
  have hP : va_P (dC, dI) vwCl (wRo u cI cZ cD (fun _ => 0) (fun _ => 0) (fun _ => 0) (fun _ => 0) (fun _ => 0) (fun _ => 0) (nI 0) (fun _ => 0) (fun _ => 0) (fun _ => 0) (fun _ => 0) (nI 0) (nI 0) (fun _ => 0) (nI 0)) H := hP8
  have hD : va_D (fun q : Nat => s.heap.size ≤ q) (wRo u cI cZ cD (fun _ => 0) (fun _ => 0) (fun _ => 0) (fun _ => 0) (fun _ => 0) (fun _ => 0) (nI 0) (fun _ => 0) (fun _ => 0) (fun _ => 0) (fun _ => 0) (nI 0) (nI 0) (fun _ => 0) (nI 0)) := hD8
  refine W.widen (k := 15) (n := 438) (by omega) (by omega) ?_
  refine lv_astore_n (lv' := [(1, .ref (u 0)), (0, .ref b)]) hx hb dL_law_7 rfl hl (by decide) rfl (fun ls hl => ?_)
  refine lv_bipush (v := 40) hx hb dL_law_8 (by decide) ?_
  refine va_newa (atype := .int) (ty := .int) hx hb (htl (.arrayClass .int) (by decide +kernel)) rfl hK hP hD hS hA (n := 40) (N' := 40) (a0 := (40, .inl (fun _ => 0))) (fun _ => rfl) (by decide) rfl (by decide) (Nat.le_of_ble_eq_true rfl) (Nat.le_of_ble_eq_true rfl) dL_law_10 (fun o1 cX H hKX hP hD hS => ?_)
  have eX : cX = cI := zq_sameI hKX hK 0 rfl
  rw [eX] at hP hD
  have hP : va_P (dC, dI) vwCl ((wRo u cI cZ cD (fun _ => 0) (fun _ => 0) (fun _ => 0) (fun _ => 0) (fun _ => 0) (fun _ => 0) (nI 0) (fun _ => 0) (fun _ => 0) (fun _ => 0) (fun _ => 0) (nI 0) (nI 0) (fun _ => 0) (nI 0)) ++ [(o1, .inl (cI, 40, .inl (fun _ => 0)))] : va_W) H := hP
  have hD : va_D (fun q : Nat => s.heap.size ≤ q) ((wRo u cI cZ cD (fun _ => 0) (fun _ => 0) (fun _ => 0) (fun _ => 0) (fun _ => 0) (fun _ => 0) (nI 0) (fun _ => 0) (fun _ => 0) (fun _ => 0) (fun _ => 0) (nI 0) (nI 0) (fun _ => 0) (nI 0)) ++ [(o1, .inl (cI, 40, .inl (fun _ => 0)))] : va_W) := hD
  refine W.widen (k := 16) (n := 478) (by omega) (by omega) ?_
  refine lv_astore_n (lv' := [(2, .ref o1), (1, .ref (u 0)), (0, .ref b)]) hx hb dL_law_12 rfl hl (by decide) rfl (fun ls hl => ?_)
  refine lv_bipush (v := 40) hx hb dL_law_13 (by decide) ?_
  refine va_newa (atype := .double) (ty := .double) hx hb (htl (.arrayClass .double) (by decide +kernel)) rfl hK hP hD hS hA (n := 40) (N' := 40) (a0 := (40, .inr (.inr (.inr (.inl (fun _ => 0)))))) (fun _ => rfl) (by decide) rfl (by decide) (Nat.le_of_ble_eq_true rfl) (Nat.le_of_ble_eq_true rfl) dL_law_15 (fun o2 cX H hKX hP hD hS => ?_)
  have eX : cX = cD := zq_sameD hKX hK 2 rfl
  rw [eX] at hP hD
  have hP : va_P (dC, dI) vwCl ((wRo u cI cZ cD (fun _ => 0) (fun _ => 0) (fun _ => 0) (fun _ => 0) (fun _ => 0) (fun _ => 0) (nI 0) (fun _ => 0) (fun _ => 0) (fun _ => 0) (fun _ => 0) (nI 0) (nI 0) (fun _ => 0) (nI 0)) ++ [(o1, .inl (cI, 40, .inl (fun _ => 0))), (o2, .inl (cD, 40, .inr (.inr (.inr (.inl (fun _ => 0))))))] : va_W) H := hP
  have hD : va_D (fun q : Nat => s.heap.size ≤ q) ((wRo u cI cZ cD (fun _ => 0) (fun _ => 0) (fun _ => 0) (fun _ => 0) (fun _ => 0) (fun _ => 0) (nI 0) (fun _ => 0) (fun _ => 0) (fun _ => 0) (fun _ => 0) (nI 0) (nI 0) (fun _ => 0) (nI 0)) ++ [(o1, .inl (cI, 40, .inl (fun _ => 0))), (o2, .inl (cD, 40, .inr (.inr (.inr (.inl (fun _ => 0))))))] : va_W) := hD
  refine W.widen (k := 17) (n := 518) (by omega) (by omega) ?_
  refine lv_astore_n (lv' := [(3, .ref o2), (2, .ref o1), (1, .ref (u 0)), (0, .ref b)]) hx hb dL_law_17 rfl hl (by decide) rfl (fun ls hl => ?_)
  refine lv_bipush (v := 40) hx hb dL_law_18 (by decide) ?_
  refine va_newa (atype := .double) (ty := .double) hx hb (htl (.arrayClass .double) (by decide +kernel)) rfl hK hP hD hS hA (n := 40) (N' := 40) (a0 := (40, .inr (.inr (.inr (.inl (fun _ => 0)))))) (fun _ => rfl) (by decide) rfl (by decide) (Nat.le_of_ble_eq_true rfl) (Nat.le_of_ble_eq_true rfl) dL_law_20 (fun o3 cX H hKX hP hD hS => ?_)
  have eX : cX = cD := zq_sameD hKX hK 2 rfl
  rw [eX] at hP hD
  have hP : va_P (dC, dI) vwCl ((wRo u cI cZ cD (fun _ => 0) (fun _ => 0) (fun _ => 0) (fun _ => 0) (fun _ => 0) (fun _ => 0) (nI 0) (fun _ => 0) (fun _ => 0) (fun _ => 0) (fun _ => 0) (nI 0) (nI 0) (fun _ => 0) (nI 0)) ++ [(o1, .inl (cI, 40, .inl (fun _ => 0))), (o2, .inl (cD, 40, .inr (.inr (.inr (.inl (fun _ => 0)))))), (o3, .inl (cD, 40, .inr (.inr (.inr (.inl (fun _ => 0))))))] : va_W) H := hP
  have hD : va_D (fun q : Nat => s.heap.size ≤ q) ((wRo u cI cZ cD (fun _ => 0) (fun _ => 0) (fun _ => 0) (fun _ => 0) (fun _ => 0) (fun _ => 0) (nI 0) (fun _ => 0) (fun _ => 0) (fun _ => 0) (fun _ => 0) (nI 0) (nI 0) (fun _ => 0) (nI 0)) ++ [(o1, .inl (cI, 40, .inl (fun _ => 0))), (o2, .inl (cD, 40, .inr (.inr (.inr (.inl (fun _ => 0)))))), (o3, .inl (cD, 40, .inr (.inr (.inr (.inl (fun _ => 0))))))] : va_W) := hD
  refine W.widen (k := 18) (n := 558) (by omega) (by omega) ?_
  refine lv_astore (lv' := [(4, .ref o3), (3, .ref o2), (2, .ref o1), (1, .ref (u 0)), (0, .ref b)]) hx hb dL_law_22 hl (by decide) rfl (fun ls hl => ?_)
  refine lv_bipush (v := 30) hx hb dL_law_24 (by decide) ?_
  refine va_newa (atype := .int) (ty := .int) hx hb (htl (.arrayClass .int) (by decide +kernel)) rfl hK hP hD hS hA (n := 30) (N' := 30) (a0 := (30, .inl (fun _ => 0))) (fun _ => rfl) (by decide) rfl (by decide) (Nat.le_of_ble_eq_true rfl) (Nat.le_of_ble_eq_true rfl) dL_law_26 (fun o4 cX H hKX hP hD hS => ?_)
  have eX : cX = cI := zq_sameI hKX hK 0 rfl
  rw [eX] at hP hD
  have hP : va_P (dC, dI) vwCl ((wRo u cI cZ cD (fun _ => 0) (fun _ => 0) (fun _ => 0) (fun _ => 0) (fun _ => 0) (fun _ => 0) (nI 0) (fun _ => 0) (fun _ => 0) (fun _ => 0) (fun _ => 0) (nI 0) (nI 0) (fun _ => 0) (nI 0)) ++ [(o1, .inl (cI, 40, .inl (fun _ => 0))), (o2, .inl (cD, 40, .inr (.inr (.inr (.inl (fun _ => 0)))))), (o3, .inl (cD, 40, .inr (.inr (.inr (.inl (fun _ => 0)))))), (o4, .inl (cI, 30, .inl (fun _ => 0)))] : va_W) H := hP
  have hD : va_D (fun q : Nat => s.heap.size ≤ q) ((wRo u cI cZ cD (fun _ => 0) (fun _ => 0) (fun _ => 0) (fun _ => 0) (fun _ => 0) (fun _ => 0) (nI 0) (fun _ => 0) (fun _ => 0) (fun _ => 0) (fun _ => 0) (nI 0) (nI 0) (fun _ => 0) (nI 0)) ++ [(o1, .inl (cI, 40, .inl (fun _ => 0))), (o2, .inl (cD, 40, .inr (.inr (.inr (.inl (fun _ => 0)))))), (o3, .inl (cD, 40, .inr (.inr (.inr (.inl (fun _ => 0)))))), (o4, .inl (cI, 30, .inl (fun _ => 0)))] : va_W) := hD
  refine W.widen (k := 19) (n := 588) (by omega) (by omega) ?_
  refine lv_astore (lv' := [(5, .ref o4), (4, .ref o3), (3, .ref o2), (2, .ref o1), (1, .ref (u 0)), (0, .ref b)]) hx hb dL_law_28 hl (by decide) rfl (fun ls hl => ?_)
  refine lv_bipush (v := 30) hx hb dL_law_30 (by decide) ?_
  refine va_newa (atype := .int) (ty := .int) hx hb (htl (.arrayClass .int) (by decide +kernel)) rfl hK hP hD hS hA (n := 30) (N' := 30) (a0 := (30, .inl (fun _ => 0))) (fun _ => rfl) (by decide) rfl (by decide) (Nat.le_of_ble_eq_true rfl) (Nat.le_of_ble_eq_true rfl) dL_law_32 (fun o5 cX H hKX hP hD hS => ?_)
  have eX : cX = cI := zq_sameI hKX hK 0 rfl
  rw [eX] at hP hD
  have hP : va_P (dC, dI) vwCl ((wRo u cI cZ cD (fun _ => 0) (fun _ => 0) (fun _ => 0) (fun _ => 0) (fun _ => 0) (fun _ => 0) (nI 0) (fun _ => 0) (fun _ => 0) (fun _ => 0) (fun _ => 0) (nI 0) (nI 0) (fun _ => 0) (nI 0)) ++ [(o1, .inl (cI, 40, .inl (fun _ => 0))), (o2, .inl (cD, 40, .inr (.inr (.inr (.inl (fun _ => 0)))))), (o3, .inl (cD, 40, .inr (.inr (.inr (.inl (fun _ => 0)))))), (o4, .inl (cI, 30, .inl (fun _ => 0))), (o5, .inl (cI, 30, .inl (fun _ => 0)))] : va_W) H := hP
  have hD : va_D (fun q : Nat => s.heap.size ≤ q) ((wRo u cI cZ cD (fun _ => 0) (fun _ => 0) (fun _ => 0) (fun _ => 0) (fun _ => 0) (fun _ => 0) (nI 0) (fun _ => 0) (fun _ => 0) (fun _ => 0) (fun _ => 0) (nI 0) (nI 0) (fun _ => 0) (nI 0)) ++ [(o1, .inl (cI, 40, .inl (fun _ => 0))), (o2, .inl (cD, 40, .inr (.inr (.inr (.inl (fun _ => 0)))))), (o3, .inl (cD, 40, .inr (.inr (.inr (.inl (fun _ => 0)))))), (o4, .inl (cI, 30, .inl (fun _ => 0))), (o5, .inl (cI, 30, .inl (fun _ => 0)))] : va_W) := hD
  refine W.widen (k := 20) (n := 618) (by omega) (by omega) ?_
  refine lv_astore (lv' := [(6, .ref o5), (5, .ref o4), (4, .ref o3), (3, .ref o2), (2, .ref o1), (1, .ref (u 0)), (0, .ref b)]) hx hb dL_law_34 hl (by decide) rfl (fun ls hl => ?_)
  refine lv_bipush (v := 30) hx hb dL_law_36 (by decide) ?_
  refine va_newa (atype := .int) (ty := .int) hx hb (htl (.arrayClass .int) (by decide +kernel)) rfl hK hP hD hS hA (n := 30) (N' := 30) (a0 := (30, .inl (fun _ => 0))) (fun _ => rfl) (by decide) rfl (by decide) (Nat.le_of_ble_eq_true rfl) (Nat.le_of_ble_eq_true rfl) dL_law_38 (fun o6 cX H hKX hP hD hS => ?_)
  have eX : cX = cI := zq_sameI hKX hK 0 rfl
  rw [eX] at hP hD
  have hP : va_P (dC, dI) vwCl ((wRo u cI cZ cD (fun _ => 0) (fun _ => 0) (fun _ => 0) (fun _ => 0) (fun _ => 0) (fun _ => 0) (nI 0) (fun _ => 0) (fun _ => 0) (fun _ => 0) (fun _ => 0) (nI 0) (nI 0) (fun _ => 0) (nI 0)) ++ [(o1, .inl (cI, 40, .inl (fun _ => 0))), (o2, .inl (cD, 40, .inr (.inr (.inr (.inl (fun _ => 0)))))), (o3, .inl (cD, 40, .inr (.inr (.inr (.inl (fun _ => 0)))))), (o4, .inl (cI, 30, .inl (fun _ => 0))), (o5, .inl (cI, 30, .inl (fun _ => 0))), (o6, .inl (cI, 30, .inl (fun _ => 0)))] : va_W) H := hP
  have hD : va_D (fun q : Nat => s.heap.size ≤ q) ((wRo u cI cZ cD (fun _ => 0) (fun _ => 0) (fun _ => 0) (fun _ => 0) (fun _ => 0) (fun _ => 0) (nI 0) (fun _ => 0) (fun _ => 0) (fun _ => 0) (fun _ => 0) (nI 0) (nI 0) (fun _ => 0) (nI 0)) ++ [(o1, .inl (cI, 40, .inl (fun _ => 0))), (o2, .inl (cD, 40, .inr (.inr (.inr (.inl (fun _ => 0)))))), (o3, .inl (cD, 40, .inr (.inr (.inr (.inl (fun _ => 0)))))), (o4, .inl (cI, 30, .inl (fun _ => 0))), (o5, .inl (cI, 30, .inl (fun _ => 0))), (o6, .inl (cI, 30, .inl (fun _ => 0)))] : va_W) := hD
  refine W.widen (k := 21) (n := 648) (by omega) (by omega) ?_
  refine lv_astore (lv' := [(7, .ref o6), (6, .ref o5), (5, .ref o4), (4, .ref o3), (3, .ref o2), (2, .ref o1), (1, .ref (u 0)), (0, .ref b)]) hx hb dL_law_40 hl (by decide) rfl (fun ls hl => ?_)
  refine lv_bipush (v := 30) hx hb dL_law_42 (by decide) ?_
  refine va_newa (atype := .int) (ty := .int) hx hb (htl (.arrayClass .int) (by decide +kernel)) rfl hK hP hD hS hA (n := 30) (N' := 30) (a0 := (30, .inl (fun _ => 0))) (fun _ => rfl) (by decide) rfl (by decide) (Nat.le_of_ble_eq_true rfl) (Nat.le_of_ble_eq_true rfl) dL_law_44 (fun o7 cX H hKX hP hD hS => ?_)
  have eX : cX = cI := zq_sameI hKX hK 0 rfl
  rw [eX] at hP hD
  have hP : va_P (dC, dI) vwCl ((wRo u cI cZ cD (fun _ => 0) (fun _ => 0) (fun _ => 0) (fun _ => 0) (fun _ => 0) (fun _ => 0) (nI 0) (fun _ => 0) (fun _ => 0) (fun _ => 0) (fun _ => 0) (nI 0) (nI 0) (fun _ => 0) (nI 0)) ++ [(o1, .inl (cI, 40, .inl (fun _ => 0))), (o2, .inl (cD, 40, .inr (.inr (.inr (.inl (fun _ => 0)))))), (o3, .inl (cD, 40, .inr (.inr (.inr (.inl (fun _ => 0)))))), (o4, .inl (cI, 30, .inl (fun _ => 0))), (o5, .inl (cI, 30, .inl (fun _ => 0))), (o6, .inl (cI, 30, .inl (fun _ => 0))), (o7, .inl (cI, 30, .inl (fun _ => 0)))] : va_W) H := hP
  have hD : va_D (fun q : Nat => s.heap.size ≤ q) ((wRo u cI cZ cD (fun _ => 0) (fun _ => 0) (fun _ => 0) (fun _ => 0) (fun _ => 0) (fun _ => 0) (nI 0) (fun _ => 0) (fun _ => 0) (fun _ => 0) (fun _ => 0) (nI 0) (nI 0) (fun _ => 0) (nI 0)) ++ [(o1, .inl (cI, 40, .inl (fun _ => 0))), (o2, .inl (cD, 40, .inr (.inr (.inr (.inl (fun _ => 0)))))), (o3, .inl (cD, 40, .inr (.inr (.inr (.inl (fun _ => 0)))))), (o4, .inl (cI, 30, .inl (fun _ => 0))), (o5, .inl (cI, 30, .inl (fun _ => 0))), (o6, .inl (cI, 30, .inl (fun _ => 0))), (o7, .inl (cI, 30, .inl (fun _ => 0)))] : va_W) := hD
  refine W.widen (k := 22) (n := 678) (by omega) (by omega) ?_
  refine lv_astore (lv' := [(8, .ref o7), (7, .ref o6), (6, .ref o5), (5, .ref o4), (4, .ref o3), (3, .ref o2), (2, .ref o1), (1, .ref (u 0)), (0, .ref b)]) hx hb dL_law_46 hl (by decide) rfl (fun ls hl => ?_)
  refine lv_bipush (v := 30) hx hb dL_law_48 (by decide) ?_
  refine va_newa (atype := .int) (ty := .int) hx hb (htl (.arrayClass .int) (by decide +kernel)) rfl hK hP hD hS hA (n := 30) (N' := 30) (a0 := (30, .inl (fun _ => 0))) (fun _ => rfl) (by decide) rfl (by decide) (Nat.le_of_ble_eq_true rfl) (Nat.le_of_ble_eq_true rfl) dL_law_50 (fun o8 cX H hKX hP hD hS => ?_)
  have eX : cX = cI := zq_sameI hKX hK 0 rfl
  rw [eX] at hP hD
  have hP : va_P (dC, dI) vwCl ((wRo u cI cZ cD (fun _ => 0) (fun _ => 0) (fun _ => 0) (fun _ => 0) (fun _ => 0) (fun _ => 0) (nI 0) (fun _ => 0) (fun _ => 0) (fun _ => 0) (fun _ => 0) (nI 0) (nI 0) (fun _ => 0) (nI 0)) ++ [(o1, .inl (cI, 40, .inl (fun _ => 0))), (o2, .inl (cD, 40, .inr (.inr (.inr (.inl (fun _ => 0)))))), (o3, .inl (cD, 40, .inr (.inr (.inr (.inl (fun _ => 0)))))), (o4, .inl (cI, 30, .inl (fun _ => 0))), (o5, .inl (cI, 30, .inl (fun _ => 0))), (o6, .inl (cI, 30, .inl (fun _ => 0))), (o7, .inl (cI, 30, .inl (fun _ => 0))), (o8, .inl (cI, 30, .inl (fun _ => 0)))] : va_W) H := hP
  have hD : va_D (fun q : Nat => s.heap.size ≤ q) ((wRo u cI cZ cD (fun _ => 0) (fun _ => 0) (fun _ => 0) (fun _ => 0) (fun _ => 0) (fun _ => 0) (nI 0) (fun _ => 0) (fun _ => 0) (fun _ => 0) (fun _ => 0) (nI 0) (nI 0) (fun _ => 0) (nI 0)) ++ [(o1, .inl (cI, 40, .inl (fun _ => 0))), (o2, .inl (cD, 40, .inr (.inr (.inr (.inl (fun _ => 0)))))), (o3, .inl (cD, 40, .inr (.inr (.inr (.inl (fun _ => 0)))))), (o4, .inl (cI, 30, .inl (fun _ => 0))), (o5, .inl (cI, 30, .inl (fun _ => 0))), (o6, .inl (cI, 30, .inl (fun _ => 0))), (o7, .inl (cI, 30, .inl (fun _ => 0))), (o8, .inl (cI, 30, .inl (fun _ => 0)))] : va_W) := hD
  refine W.widen (k := 23) (n := 708) (by omega) (by omega) ?_
  refine lv_astore (lv' := [(9, .ref o8), (8, .ref o7), (7, .ref o6), (6, .ref o5), (5, .ref o4), (4, .ref o3), (3, .ref o2), (2, .ref o1), (1, .ref (u 0)), (0, .ref b)]) hx hb dL_law_52 hl (by decide) rfl (fun ls hl => ?_)
  refine lv_bipush (v := 30) hx hb dL_law_54 (by decide) ?_
  refine va_newa (atype := .int) (ty := .int) hx hb (htl (.arrayClass .int) (by decide +kernel)) rfl hK hP hD hS hA (n := 30) (N' := 30) (a0 := (30, .inl (fun _ => 0))) (fun _ => rfl) (by decide) rfl (by decide) (Nat.le_of_ble_eq_true rfl) (Nat.le_of_ble_eq_true rfl) dL_law_56 (fun o9 cX H hKX hP hD hS => ?_)
  have eX : cX = cI := zq_sameI hKX hK 0 rfl
  rw [eX] at hP hD
  have hP : va_P (dC, dI) vwCl ((wRo u cI cZ cD (fun _ => 0) (fun _ => 0) (fun _ => 0) (fun _ => 0) (fun _ => 0) (fun _ => 0) (nI 0) (fun _ => 0) (fun _ => 0) (fun _ => 0) (fun _ => 0) (nI 0) (nI 0) (fun _ => 0) (nI 0)) ++ [(o1, .inl (cI, 40, .inl (fun _ => 0))), (o2, .inl (cD, 40, .inr (.inr (.inr (.inl (fun _ => 0)))))), (o3, .inl (cD, 40, .inr (.inr (.inr (.inl (fun _ => 0)))))), (o4, .inl (cI, 30, .inl (fun _ => 0))), (o5, .inl (cI, 30, .inl (fun _ => 0))), (o6, .inl (cI, 30, .inl (fun _ => 0))), (o7, .inl (cI, 30, .inl (fun _ => 0))), (o8, .inl (cI, 30, .inl (fun _ => 0))), (o9, .inl (cI, 30, .inl (fun _ => 0)))] : va_W) H := hP
  have hD : va_D (fun q : Nat => s.heap.size ≤ q) ((wRo u cI cZ cD (fun _ => 0) (fun _ => 0) (fun _ => 0) (fun _ => 0) (fun _ => 0) (fun _ => 0) (nI 0) (fun _ => 0) (fun _ => 0) (fun _ => 0) (fun _ => 0) (nI 0) (nI 0) (fun _ => 0) (nI 0)) ++ [(o1, .inl (cI, 40, .inl (fun _ => 0))), (o2, .inl (cD, 40, .inr (.inr (.inr (.inl (fun _ => 0)))))), (o3, .inl (cD, 40, .inr (.inr (.inr (.inl (fun _ => 0)))))), (o4, .inl (cI, 30, .inl (fun _ => 0))), (o5, .inl (cI, 30, .inl (fun _ => 0))), (o6, .inl (cI, 30, .inl (fun _ => 0))), (o7, .inl (cI, 30, .inl (fun _ => 0))), (o8, .inl (cI, 30, .inl (fun _ => 0))), (o9, .inl (cI, 30, .inl (fun _ => 0)))] : va_W) := hD
  refine W.widen (k := 24) (n := 738) (by omega) (by omega) ?_
  refine lv_astore (lv' := [(10, .ref o9), (9, .ref o8), (8, .ref o7), (7, .ref o6), (6, .ref o5), (5, .ref o4), (4, .ref o3), (3, .ref o2), (2, .ref o1), (1, .ref (u 0)), (0, .ref b)]) hx hb dL_law_58 hl (by decide) rfl (fun ls hl => ?_)
  refine lv_iconst (v := 4) hx hb dL_law_60 (by decide) ?_
  refine va_newa (atype := .int) (ty := .int) hx hb (htl (.arrayClass .int) (by decide +kernel)) rfl hK hP hD hS hA (n := 4) (N' := 4) (a0 := (4, .inl (fun _ => 0))) (fun _ => rfl) (by decide) rfl (by decide) (Nat.le_of_ble_eq_true rfl) (Nat.le_of_ble_eq_true rfl) dL_law_61 (fun o10 cX H hKX hP hD hS => ?_)
  have eX : cX = cI := zq_sameI hKX hK 0 rfl
  rw [eX] at hP hD
  have hP : va_P (dC, dI) vwCl ((wRo u cI cZ cD (fun _ => 0) (fun _ => 0) (fun _ => 0) (fun _ => 0) (fun _ => 0) (fun _ => 0) (nI 0) (fun _ => 0) (fun _ => 0) (fun _ => 0) (fun _ => 0) (nI 0) (nI 0) (fun _ => 0) (nI 0)) ++ [(o1, .inl (cI, 40, .inl (fun _ => 0))), (o2, .inl (cD, 40, .inr (.inr (.inr (.inl (fun _ => 0)))))), (o3, .inl (cD, 40, .inr (.inr (.inr (.inl (fun _ => 0)))))), (o4, .inl (cI, 30, .inl (fun _ => 0))), (o5, .inl (cI, 30, .inl (fun _ => 0))), (o6, .inl (cI, 30, .inl (fun _ => 0))), (o7, .inl (cI, 30, .inl (fun _ => 0))), (o8, .inl (cI, 30, .inl (fun _ => 0))), (o9, .inl (cI, 30, .inl (fun _ => 0))), (o10, .inl (cI, 4, .inl (fun _ => 0)))] : va_W) H := hP
  have hD : va_D (fun q : Nat => s.heap.size ≤ q) ((wRo u cI cZ cD (fun _ => 0) (fun _ => 0) (fun _ => 0) (fun _ => 0) (fun _ => 0) (fun _ => 0) (nI 0) (fun _ => 0) (fun _ => 0) (fun _ => 0) (fun _ => 0) (nI 0) (nI 0) (fun _ => 0) (nI 0)) ++ [(o1, .inl (cI, 40, .inl (fun _ => 0))), (o2, .inl (cD, 40, .inr (.inr (.inr (.inl (fun _ => 0)))))), (o3, .inl (cD, 40, .inr (.inr (.inr (.inl (fun _ => 0)))))), (o4, .inl (cI, 30, .inl (fun _ => 0))), (o5, .inl (cI, 30, .inl (fun _ => 0))), (o6, .inl (cI, 30, .inl (fun _ => 0))), (o7, .inl (cI, 30, .inl (fun _ => 0))), (o8, .inl (cI, 30, .inl (fun _ => 0))), (o9, .inl (cI, 30, .inl (fun _ => 0))), (o10, .inl (cI, 4, .inl (fun _ => 0)))] : va_W) := hD
  refine W.widen (k := 25) (n := 742) (by omega) (by omega) ?_
  refine lv_astore (lv' := [(11, .ref o10), (10, .ref o9), (9, .ref o8), (8, .ref o7), (7, .ref o6), (6, .ref o5), (5, .ref o4), (4, .ref o3), (3, .ref o2), (2, .ref o1), (1, .ref (u 0)), (0, .ref b)]) hx hb dL_law_63 hl (by decide) rfl (fun ls hl => ?_)
  refine lv_iconst (v := 0) hx hb dL_law_65 (by decide) ?_
  refine lv_istore (lv' := [(12, .int 0), (11, .ref o10), (10, .ref o9), (9, .ref o8), (8, .ref o7), (7, .ref o6), (6, .ref o5), (5, .ref o4), (4, .ref o3), (3, .ref o2), (2, .ref o1), (1, .ref (u 0)), (0, .ref b)]) hx hb dL_law_66 hl (by decide) rfl (fun ls hl => ?_)
  obtain ⟨v, hv1, hv2, hv3, hv4, hv5, hv6, hv7, hv8, hv9, hv10⟩ : ∃ v : Nat → Nat, v 1 = o1 ∧ v 2 = o2 ∧ v 3 = o3 ∧ v 4 = o4 ∧ v 5 = o5 ∧ v 6 = o6 ∧ v 7 = o7 ∧ v 8 = o8 ∧ v 9 = o9 ∧ v 10 = o10 := ⟨fun k => if k = 1 then o1 else if k = 2 then o2 else if k = 3 then o3 else if k = 4 then o4 else if k = 5 then o5 else if k = 6 then o6 else if k = 7 then o7 else if k = 8 then o8 else if k = 9 then o9 else if k = 10 then o10 else 0, rfl, rfl, rfl, rfl, rfl, rfl, rfl, rfl, rfl, rfl⟩
  subst hv1
  subst hv2
  subst hv3
  subst hv4
  subst hv5
  subst hv6
  subst hv7
  subst hv8
  subst hv9
  subst hv10
  have hP : va_P (dC, dI) vwCl (wLw u v cI cZ cD (fun _ => 0) (fun _ => 0) (fun _ => 0) (fun _ => 0) (fun _ => 0) (fun _ => 0) (nI 0) (fun _ => 0) (fun _ => 0) (fun _ => 0) (fun _ => 0) (nI 0) (nI 0) (fun _ => 0) (nI 0) (fun _ => 0) (fun _ => 0) (fun _ => 0) (fun _ => 0) (fun _ => 0) (fun _ => 0) (fun _ => 0) (fun _ => 0) (fun _ => 0) (fun _ => 0)) H := hP
  have hD : va_D (fun q : Nat => s.heap.size ≤ q) (wLw u v cI cZ cD (fun _ => 0) (fun _ => 0) (fun _ => 0) (fun _ => 0) (fun _ => 0) (fun _ => 0) (nI 0) (fun _ => 0) (fun _ => 0) (fun _ => 0) (fun _ => 0) (nI 0) (nI 0) (fun _ => 0) (nI 0) (fun _ => 0) (fun _ => 0) (fun _ => 0) (fun _ => 0) (fun _ => 0) (fun _ => 0) (fun _ => 0) (fun _ => 0) (fun _ => 0) (fun _ => 0)) := hD
  have hl : lv_has ls 16 [(12, .int (nI 0)), (0, .ref b), (1, .ref (u 0)), (2, .ref (v 1)), (3, .ref (v 2)), (4, .ref (v 3)), (5, .ref (v 4)), (6, .ref (v 5)), (7, .ref (v 6)), (8, .ref (v 7)), (9, .ref (v 8)), (10, .ref (v 9)), (11, .ref (v 10))] := lv_sub hl [0, 12, 11, 10, 9, 8, 7, 6, 5, 4, 3, 2, 1] rfl
  have hend : ∀ (H : Heap) (locs : List Loc) (ls : Array Slot), s.heap.size + 312 ≤ H.size → W p l e room2 s m #[Value.ref b] below meth c H locs 768 5548 (fun t => s.heap.size + 312 ≤ t.heap.size) (F0 m 68 ls []) := fun H locs ls h9 T hT X => ⟨T.setTop (F0 m 68 ls []), Steps.refl _, by
    show s.heap.size + 312 ≤ T.heap.size
    rw [hT]
    exact h9⟩
  refine W.widen (k := 40 + 7 * 0) (n := 1180 + 42 * 0) (by omega) (by omega) ?_
  refine law_loop hl0 hS9 hA hE hH dC dI u v cI cZ cD hK hX hbl hbA hL h208 hxs hend 104 0 rfl H _ ls ⟨(fun _ => 0), (fun _ => 0), (fun _ => 0), (fun _ => 0), (fun _ => 0), (fun _ => 0), 0, (fun _ => 0), (fun _ => 0), (fun _ => 0), (fun _ => 0), 0, (nI 0), (fun _ => 0), (nI 0), (fun _ => 0), (fun _ => 0), (fun _ => 0), (fun _ => 0), (fun _ => 0), (fun _ => 0), (fun _ => 0), (fun _ => 0), (fun _ => 0), (fun _ => 0), (by omega), ?_, hP, hD, hS, hl, hS.1⟩
  exact ⟨rfl, rfl, fun i hi => absurd hi (Nat.not_lt_zero i), fun i hi => absurd hi (Nat.not_lt_zero i), fun _ => rfl, fun i hi => absurd hi (Nat.not_lt_zero i), fun _ => rfl, fun i hi => absurd hi (Nat.not_lt_zero i), fun i hi => absurd hi (Nat.not_lt_zero i), fun i hi => absurd hi (Nat.not_lt_zero i), fun i hi => absurd hi (Nat.not_lt_zero i), fun i hi => absurd hi (Nat.not_lt_zero i), fun i hi => absurd hi (Nat.not_lt_zero i), fun _ _ => zn_0, fun _ _ => zn_0⟩
end
section
/-! the heap's growth against the claim's room -/
def zr_law : String := "LampRoomLaw"
def zy_P (b : Addr) (xs : List Int32) (args : Array Value) (s : State) : Prop := args = #[.ref b] ∧ s.IntsAt b xs ∧ xs.length ≤ 260 ∧ (Jvm.Cond.and given_1 narrow_1).before args s = true
/-- the step into the law's body (as in MetFree.of_bodySF of the library) -/
theorem zz_enter {l : Launch} {p : Program} {e : Env} (ha : l.admits e) (hc : FairCas e.choices) (hk : FairClock e.choices) {s : State} {m : MethodId} {args : Array Value} {below : List Frame} {S : Spec} (hf : s.frames = .invoking m args :: below) (happ : S.appliesLoose x e.platform s = true)
    (his : ∀ args (s : State) m, S.pre.before args s = true → s.methodNamed? x = some m → ∃ meth c, s.vm.method? m = some meth ∧ meth.code = some c ∧ c.code = code ∧ c.maxLocals = maxLocals ∧ meth.sig.returnType = ret ∧ meth.locks = false) :
    ∃ (meth : Method) (c : Code) (s₁ : State), BodyLoose p l x S code maxLocals ret e s m args below meth c s₁ ∧ c.maxLocals = maxLocals ∧ ∀ u, Steps p.tables e below (s₁.setTop (entryFrame m args maxLocals)) u → Steps p.tables e below s u := by
  obtain ⟨hrun, hable, halone, hname, hhears, hinit, hroom, hpre⟩ := (Spec.appliesLoose_iff hf).mp happ
  obtain ⟨meth, c, hmeth, hcode, hbytes, hlocals, hret, hlocks⟩ := his args s m hpre hname
  have hcur := State.cur_lt_of_frames hf
  have hf1 : (s.setFrames (.java (entryFrame m args maxLocals) :: below)).frames = .java (entryFrame m args maxLocals) :: below := State.frames_setFrames _ hcur
  have ht1 := State.topJava?_of_frames hf1
  have hplain : (s.setFrames (.java (entryFrame m args maxLocals) :: below)).plainMethod m := State.plainMethod.of_named (s := s) (plainFor_of_name (by decide)) hname hmeth
  have hAt : At (s.setFrames (.java (entryFrame m args maxLocals) :: below)) m c below :=
    ⟨by rw [ht1]; rfl, ⟨[], by rw [hf1]; rfl⟩, hrun, by simpa using hable, by simpa using halone, by rw [State.code?_eq]; simp [State.setFrames, hmeth, hcode], hplain⟩
  have hstep : (stepThread p.tables e s).1 = (s.setFrames (.java (entryFrame m args maxLocals) :: below)).setTop (entryFrame m args maxLocals) := by
    have hfull : e.platform.stackFull (s.setFrames below).me (s.setFrames below).frames c.maxLocals = false := by
      obtain ⟨-, h1, -, h2⟩ := State.hasRoom_stack hroom
      rw [hf, List.length_cons] at h1
      rw [State.localsInUse_invoking hf hmeth hcode] at h2
      have hw := stackUse_le_stackWeight below
      rw [State.frames_setFrames _ hcur]
      exact Platform.stackFull_eq_false (by rw [State.stackLimits_setFrames]; omega) (by rw [State.stackLimits_setFrames]; omega)
    rw [stepThread_invoking hf, (doInvoke_java (s := s.setFrames below) (e := e) (meth := meth) (code := c) hmeth hcode hlocks hfull).1, State.setTop_self ht1]
    simp only [State.pushFrame, State.frames_setFrames _ hcur, State.setFrames_setFrames, hlocals, entryFrame]
  exact ⟨meth, c, _, ⟨ha, hc, hk, by cases p <;> rfl, hf, hname, hhears, hinit, hroom, hpre, hmeth, hret, hlocks, hbytes, rfl, hAt⟩, hlocals, fun u hs => Steps.head (tb := p.tables) (e := e) ⟨hrun, hable, halone⟩ ⟨[.invoking m args], hf, by simp, by simp⟩ (hstep ▸ hs)⟩
/-- from a start with more room than the claim's: at some step, the law still under way, more than 311 cells are new -/
theorem zz_big {l : Launch} (hflags : l.flags = flags0) {p : Program} {e : Env} (ha : l.admits e) (hc : FairCas e.choices) (hk : FairClock e.choices) {s : State} {m : MethodId} {args : Array Value} {below : List Frame} (hf : s.frames = .invoking m args :: below)
    (happ : (headSpec (Jvm.Cond.code x code maxLocals ret :: tables_1) room2).appliesLoose x e.platform s = true) {b : Nat} {xs : List Int32} (hP : zy_P b xs args s) (h208 : 208 ≤ xs.length) (hxs : ∀ j, j < 104 → xs.getD (2 * j) 0 = 26 ∧ xs.getD (2 * j + 1) 0 = 10) :
    ∃ k, (∀ j, j < k → Within (stepsAlone p.tables e j s) below) ∧ s.heap.size + 312 ≤ (stepsAlone p.tables e k s).heap.size := by
  obtain ⟨meth, c, s₁, B, hml0, hgo⟩ := zz_enter (p := p) (S := headSpec (Jvm.Cond.code x code maxLocals ret :: tables_1) room2) ha hc hk hf happ (fun args s m h hn => by
    obtain ⟨meth, c, h1, h2, h3, h4, h5, h6, -, -⟩ := Cond.code_spec hn (atoms_spec (ws := Jvm.Cond.code x code maxLocals ret :: tables_1) h _ List.mem_cons_self)
    exact ⟨meth, c, h1, h2, h3, h4, h5, h6⟩)
  obtain ⟨rfl, hx, hbd, hgv⟩ := hP
  obtain ⟨scr, harrAt, hlist, hof, hsmall⟩ := hx
  obtain ⟨hcb, hkn, -, -⟩ := State.arrayAt?_spec harrAt
  have hown : s.vm.findClass RL = some m.cls := findClass_of_methodNamed B.named
  have hts0 : ∀ c ∈ (Jvm.Cond.code x code maxLocals ret :: tables_1), c.before #[Value.ref b] s = true := atoms_spec (ws := Jvm.Cond.code x code maxLocals ret :: tables_1) B.pre
  have hts : ∀ w ∈ lw_tbl, w.before #[Value.ref b] s = true := k2_hts_sels lw_privs (fun w hw => hts0 w (List.mem_cons_of_mem _ hw)) lw_privs_ok
  have hml : c.maxLocals = 16 := B.maxLocals_eq (hts0 _ List.mem_cons_self)
  have X₀ : Stand p l e room2 s m #[Value.ref b] below meth c s₁ [] 0 0 := Stand.of_body B
  have hh0 : s₁.heap = s.heap := by rw [B.state]; rfl
  have hsz : scr.slots.size = xs.length := by rw [← Array.length_toList, hlist, List.length_map]
  have hval : ∀ j : Nat, j < xs.length → scr.slots[j]? = some (.int (xs.getD j 0)) := fun j hj => by
    rw [← Array.getElem?_toList, hlist]
    simp [hj]
  have hbl : b < s.heap.size := (Array.getElem?_eq_some_iff.mp hcb).1
  have hX : va_X b xs.length (fun j => xs.getD j 0) s s.heap := ⟨scr, hcb, hof, hkn, hsz, hval⟩
  have K : W p l e room2 s m #[Value.ref b] below meth c s₁.heap [] 0 0 (fun t => s.heap.size + 312 ≤ t.heap.size) (entryFrame m ([Value.ref b] : List Value).toArray 16) := by
    rw [hh0]
    exact big_start l hflags hbd h208 hxs B.exec B.bytes hml hown hts hX hbl hgv
  obtain ⟨t, a1, hbig⟩ := K s₁ rfl X₀
  obtain ⟨k, hk9, hw⟩ := hgo t a1
  exact ⟨k, hw, by rw [hk9]; exact hbig⟩
/-- what is owed is false, if the law has such a start -/
theorem zz_false {l : Launch} (hflags : l.flags = flags0) (hlists : Lists l classFile x code maxLocals ret tables_1 room_1) (hworld : World_1 l) {p : Program} {e : Env} (ha : l.admits e) (hc : FairCas e.choices) (hk : FairClock e.choices) {s : State} {m : MethodId} {args : Array Value} {below : List Frame} (hf : s.frames = .invoking m args :: below)
    (hfit : argsFit s.vm m args = true) (hheap : heapFits s = true) (h1 : (headSpec (Jvm.Cond.code x code maxLocals ret :: tables_1) room_1).applies x e.platform s = true) (h2 : (headSpec (Jvm.Cond.code x code maxLocals ret :: tables_1) room2).appliesLoose x e.platform s = true)
    (hcalls : Calls_1 p.tables e args s) (hrest : rest_1 p.tables e args s) (hpre : Pre_1 p.tables e args s) {b : Nat} {xs : List Int32} (hP : zy_P b xs args s) (h208 : 208 ≤ xs.length) (hxs : ∀ j, j < 104 → xs.getD (2 * j) 0 = 26 ∧ xs.getD (2 * j + 1) 0 = 10) : ¬ Claimed_1_1 := by
  intro hcl
  obtain ⟨n, o, hw, hrun, hend, hpost⟩ := hcl l hflags hlists hworld p e ha hc hk s m args below hf hfit hheap h1 ⟨hcalls, hrest, hpre⟩
  obtain ⟨k, hw2, hbig⟩ := zz_big hflags (p := p) ha hc hk hf h2 hP h208 hxs
  obtain ⟨-, hdr⟩ := hpost
  obtain ⟨⟨-, -, hsame⟩, -, -⟩ := hdr
  have hle : (stepsAlone p.tables e n s).heap.size ≤ s.heap.size + 311 := hsame.2.2.1
  by_cases hnk : n < k
  · exact (Ended.not_within hend) (hw2 n hnk)
  · have hg := (stepsAlone_heap_grows_add p.tables e k (n - k) s).1
    rw [show k + (n - k) = n by omega] at hg
    omega
end
section
/-! the start: the witness' own, with the script 26, 10, 26, 10, .. of 208 ints; so what is owed is false -/
def zs_xs : List Int32 := (List.replicate 104 [26, 10]).flatten
def zs_sc : Array Value := (zs_xs.map Value.int).toArray
def zs_at : State := start1.aboutOf zs_sc
theorem zs_code {q : Cond} (h : su_isCode q = true) (hq : q.before start1.args0 start1.about = true) : q.before start1.args0 zs_at = true := by
  cases q <;> first | (simp [su_isCode] at h; done) | exact hq | (simp only [Cond.before, Cond.holds, Cond.value] at hq ⊢; exact hq)
set_option maxRecDepth 16384 in
theorem zs_o0 : (tables_1.take 40).all (fun c => su_isCode c || c.before start1.args0 zs_at) = true := by decide +kernel
set_option maxRecDepth 16384 in
theorem zs_o1 : ((tables_1.drop 40).take 40).all (fun c => su_isCode c || c.before start1.args0 zs_at) = true := by decide +kernel
set_option maxRecDepth 16384 in
theorem zs_o2 : (((tables_1.drop 40).drop 40).take 40).all (fun c => su_isCode c || c.before start1.args0 zs_at) = true := by decide +kernel
set_option maxRecDepth 16384 in
theorem zs_o3 : ((((tables_1.drop 40).drop 40).drop 40).take 40).all (fun c => su_isCode c || c.before start1.args0 zs_at) = true := by decide +kernel
set_option maxRecDepth 16384 in
theorem zs_o4 : (((((tables_1.drop 40).drop 40).drop 40).drop 40).take 40).all (fun c => su_isCode c || c.before start1.args0 zs_at) = true := by decide +kernel
set_option maxRecDepth 16384 in
theorem zs_o5 : ((((((tables_1.drop 40).drop 40).drop 40).drop 40).drop 40).take 40).all (fun c => su_isCode c || c.before start1.args0 zs_at) = true := by decide +kernel
set_option maxRecDepth 16384 in
theorem zs_o6 : (((((((tables_1.drop 40).drop 40).drop 40).drop 40).drop 40).drop 40).take 40).all (fun c => su_isCode c || c.before start1.args0 zs_at) = true := by decide +kernel
set_option maxRecDepth 16384 in
theorem zs_o7 : ((((((((tables_1.drop 40).drop 40).drop 40).drop 40).drop 40).drop 40).drop 40).take 40).all (fun c => su_isCode c || c.before start1.args0 zs_at) = true := by decide +kernel
set_option maxRecDepth 16384 in
theorem zs_o8 : (((((((((tables_1.drop 40).drop 40).drop 40).drop 40).drop 40).drop 40).drop 40).drop 40).take 40).all (fun c => su_isCode c || c.before start1.args0 zs_at) = true := by decide +kernel
set_option maxRecDepth 16384 in
theorem zs_o9 : ((((((((((tables_1.drop 40).drop 40).drop 40).drop 40).drop 40).drop 40).drop 40).drop 40).drop 40).take 40).all (fun c => su_isCode c || c.before start1.args0 zs_at) = true := by decide +kernel
set_option maxRecDepth 16384 in
theorem zs_o10 : (((((((((((tables_1.drop 40).drop 40).drop 40).drop 40).drop 40).drop 40).drop 40).drop 40).drop 40).drop 40).take 40).all (fun c => su_isCode c || c.before start1.args0 zs_at) = true := by decide +kernel
set_option maxRecDepth 16384 in
theorem zs_o11 : ((((((((((((tables_1.drop 40).drop 40).drop 40).drop 40).drop 40).drop 40).drop 40).drop 40).drop 40).drop 40).drop 40).take 40).all (fun c => su_isCode c || c.before start1.args0 zs_at) = true := by decide +kernel
set_option maxRecDepth 16384 in
theorem zs_o12 : (((((((((((((tables_1.drop 40).drop 40).drop 40).drop 40).drop 40).drop 40).drop 40).drop 40).drop 40).drop 40).drop 40).drop 40).take 40).all (fun c => su_isCode c || c.before start1.args0 zs_at) = true := by decide +kernel
set_option maxRecDepth 16384 in
theorem zs_o13 : (((((((((((((tables_1.drop 40).drop 40).drop 40).drop 40).drop 40).drop 40).drop 40).drop 40).drop 40).drop 40).drop 40).drop 40).drop 40).all (fun c => su_isCode c || c.before start1.args0 zs_at) = true := by decide +kernel
theorem zs_others : tables_1.all (fun c => su_isCode c || c.before start1.args0 zs_at) = true := (start1.su_all_split _ 40 tables_1 zs_o0 (start1.su_all_split _ 40 (tables_1.drop 40) zs_o1 (start1.su_all_split _ 40 ((tables_1.drop 40).drop 40) zs_o2 (start1.su_all_split _ 40 (((tables_1.drop 40).drop 40).drop 40) zs_o3 (start1.su_all_split _ 40 ((((tables_1.drop 40).drop 40).drop 40).drop 40) zs_o4 (start1.su_all_split _ 40 (((((tables_1.drop 40).drop 40).drop 40).drop 40).drop 40) zs_o5 (start1.su_all_split _ 40 ((((((tables_1.drop 40).drop 40).drop 40).drop 40).drop 40).drop 40) zs_o6 (start1.su_all_split _ 40 (((((((tables_1.drop 40).drop 40).drop 40).drop 40).drop 40).drop 40).drop 40) zs_o7 (start1.su_all_split _ 40 ((((((((tables_1.drop 40).drop 40).drop 40).drop 40).drop 40).drop 40).drop 40).drop 40) zs_o8 (start1.su_all_split _ 40 (((((((((tables_1.drop 40).drop 40).drop 40).drop 40).drop 40).drop 40).drop 40).drop 40).drop 40) zs_o9 (start1.su_all_split _ 40 ((((((((((tables_1.drop 40).drop 40).drop 40).drop 40).drop 40).drop 40).drop 40).drop 40).drop 40).drop 40) zs_o10 (start1.su_all_split _ 40 (((((((((((tables_1.drop 40).drop 40).drop 40).drop 40).drop 40).drop 40).drop 40).drop 40).drop 40).drop 40).drop 40) zs_o11 (start1.su_all_split _ 40 ((((((((((((tables_1.drop 40).drop 40).drop 40).drop 40).drop 40).drop 40).drop 40).drop 40).drop 40).drop 40).drop 40).drop 40) zs_o12 zs_o13)))))))))))))
theorem zs_words : ∀ c ∈ (Cond.code x code maxLocals ret :: tables_1), c.before start1.args0 zs_at = true := by
  intro c hc
  have hw := start1.words c hc
  rcases List.mem_cons.mp hc with h | h
  · subst h
    exact zs_code rfl hw
  · have h1 := List.all_eq_true.mp zs_others c h
    cases hq : su_isCode c with
    | true => exact zs_code hq hw
    | false =>
      rw [hq, Bool.false_or] at h1
      exact h1
theorem zs_given : (Cond.and given_1 narrow_1).before start1.args0 zs_at = true := by decide +kernel
theorem zs_rest : rest_1_c.before start1.args0 zs_at = true := by decide +kernel
theorem zs_app1 : (headSpec (Jvm.Cond.code x code maxLocals ret :: tables_1) room_1).applies x start1.e0.platform zs_at = true :=
  (Spec.applies_iff rfl).mpr ⟨rfl, rfl, rfl, by decide +kernel, by decide +kernel, by decide +kernel, launch0.hasRoom_least _ room_1 (by decide +kernel) (by decide +kernel) (by decide +kernel) (by decide +kernel) (by decide +kernel) (by decide +kernel), atoms_intro zs_words⟩
theorem zs_app2 : (headSpec (Jvm.Cond.code x code maxLocals ret :: tables_1) room2).applies x start1.e0.platform zs_at = true :=
  (Spec.applies_iff rfl).mpr ⟨rfl, rfl, rfl, by decide +kernel, by decide +kernel, by decide +kernel, launch0.hasRoom_least _ room2 (by decide +kernel) (by decide +kernel) (by decide +kernel) (by decide +kernel) (by decide +kernel) (by decide +kernel), atoms_intro zs_words⟩
theorem zs_ints : zs_at.IntsAt 0 zs_xs := ⟨{ cls := 14, slots := zs_sc, vm := .none }, rfl, rfl, ⟨fun k h => (by cases h), _, rfl, _, rfl⟩, by decide +kernel⟩
theorem zs_els : ∀ j, j < 104 → zs_xs.getD (2 * j) 0 = 26 ∧ zs_xs.getD (2 * j + 1) 0 = 10 := by decide +kernel
/-- THE FIRST LIMB IS FALSE -/
theorem p23_limb_false : ¬ Claimed_1_1 :=
  zz_false (l := launch0) rfl lists_1 trivial (p := start1.p0) (e := start1.e0) (launch0.admits_env _ _ _) fairChoices_fair.cas fairChoices_fair.clock (s := zs_at) (m := ⟨0, 0⟩) (args := start1.args0) (below := Lib.HandBits.below0) rfl (by decide +kernel) (by decide +kernel) zs_app1 ((Spec.applies_iff_loose rfl).mp zs_app2).1 trivial zs_rest zs_given (b := 0) (xs := zs_xs) ⟨rfl, zs_ints, by decide +kernel, zs_given⟩ (by decide +kernel) zs_els
/-- WHAT IS OWED IS FALSE -/
theorem p23_false : ¬ (Claimed_1_1 ∧ Claimed_1_2) := fun h => p23_limb_false h.1
end
