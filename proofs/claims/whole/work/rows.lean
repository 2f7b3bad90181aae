section
-- ===== PART A: goes FIRST, ahead of the names: the tables' words, and 'selects' of the private methods out of them =====
/-- a private method of a class that the tables say can be made, by its rows of tables_1 -/
def lw_okq (q : MethodName × Nat) : Prop := (q.1.cls ≠ "java/lang/invoke/MethodHandle" ∧ q.1.cls ≠ "java/lang/invoke/VarHandle") ∧ Cond.instantiable q.1.cls q.2 ∈ tables_1 ∧ Cond.privateMethod q.1 ∈ tables_1 ∧ Cond.instanceMethod q.1 ∈ tables_1
theorem lw_p0 : lw_okq (⟨"LampRoom$Tallies", "countAhead", "(I)I"⟩, 6) := ⟨⟨by decide +kernel, by decide +kernel⟩, List.mem_of_getElem? (i := 52) (by decide +kernel), List.mem_of_getElem? (i := 116) (by decide +kernel), List.mem_of_getElem? (i := 117) (by decide +kernel)⟩
theorem lw_p1 : lw_okq (⟨"LampRoom$Alarms", "countAhead", "(I)I"⟩, 1) := ⟨⟨by decide +kernel, by decide +kernel⟩, List.mem_of_getElem? (i := 77) (by decide +kernel), List.mem_of_getElem? (i := 148) (by decide +kernel), List.mem_of_getElem? (i := 149) (by decide +kernel)⟩
theorem lw_p2 : lw_okq (⟨"LampRoom$Alarms", "isAhead", "(II)Z"⟩, 1) := ⟨⟨by decide +kernel, by decide +kernel⟩, List.mem_of_getElem? (i := 77) (by decide +kernel), List.mem_of_getElem? (i := 152) (by decide +kernel), List.mem_of_getElem? (i := 153) (by decide +kernel)⟩
theorem lw_p3 : lw_okq (⟨"java/lang/Throwable", "fillInStackTrace", "(I)Ljava/lang/Throwable;"⟩, 6) := ⟨⟨by decide +kernel, by decide +kernel⟩, List.mem_of_getElem? (i := 215) (by decide +kernel), List.mem_of_getElem? (i := 213) (by decide +kernel), List.mem_of_getElem? (i := 214) (by decide +kernel)⟩
theorem lw_p4 : lw_okq (⟨"LampRoom", "checkMiner", "(I)V"⟩, 4) := ⟨⟨by decide +kernel, by decide +kernel⟩, List.mem_of_getElem? (i := 13) (by decide +kernel), List.mem_of_getElem? (i := 295) (by decide +kernel), List.mem_of_getElem? (i := 296) (by decide +kernel)⟩
theorem lw_p5 : lw_okq (⟨"LampRoom$Lamps", "fullestOf", "(I)I"⟩, 7) := ⟨⟨by decide +kernel, by decide +kernel⟩, List.mem_of_getElem? (i := 21) (by decide +kernel), List.mem_of_getElem? (i := 320) (by decide +kernel), List.mem_of_getElem? (i := 321) (by decide +kernel)⟩
theorem lw_p6 : lw_okq (⟨"LampRoom$Lamps", "isIssuable", "(II)Z"⟩, 7) := ⟨⟨by decide +kernel, by decide +kernel⟩, List.mem_of_getElem? (i := 21) (by decide +kernel), List.mem_of_getElem? (i := 324) (by decide +kernel), List.mem_of_getElem? (i := 325) (by decide +kernel)⟩
theorem lw_p7 : lw_okq (⟨"LampRoom", "checkLamp", "(I)V"⟩, 4) := ⟨⟨by decide +kernel, by decide +kernel⟩, List.mem_of_getElem? (i := 13) (by decide +kernel), List.mem_of_getElem? (i := 370) (by decide +kernel), List.mem_of_getElem? (i := 371) (by decide +kernel)⟩
theorem lw_p8 : lw_okq (⟨"LampRoom", "passHour", "()I"⟩, 4) := ⟨⟨by decide +kernel, by decide +kernel⟩, List.mem_of_getElem? (i := 13) (by decide +kernel), List.mem_of_getElem? (i := 405) (by decide +kernel), List.mem_of_getElem? (i := 406) (by decide +kernel)⟩
theorem lw_p9 : lw_okq (⟨"LampRoom", "beginAlarms", "(II)I"⟩, 4) := ⟨⟨by decide +kernel, by decide +kernel⟩, List.mem_of_getElem? (i := 13) (by decide +kernel), List.mem_of_getElem? (i := 419) (by decide +kernel), List.mem_of_getElem? (i := 420) (by decide +kernel)⟩
theorem lw_p10 : lw_okq (⟨"LampRoomModel", "isMiner", "(I)Z"⟩, 17) := ⟨⟨by decide +kernel, by decide +kernel⟩, List.mem_of_getElem? (i := 499) (by decide +kernel), List.mem_of_getElem? (i := 582) (by decide +kernel), List.mem_of_getElem? (i := 583) (by decide +kernel)⟩
theorem lw_p11 : lw_okq (⟨"LampRoomModel", "lampFor", "(I)I"⟩, 17) := ⟨⟨by decide +kernel, by decide +kernel⟩, List.mem_of_getElem? (i := 499) (by decide +kernel), List.mem_of_getElem? (i := 586) (by decide +kernel), List.mem_of_getElem? (i := 587) (by decide +kernel)⟩
theorem lw_p12 : lw_okq (⟨"LampRoomModel", "isReady", "(I)Z"⟩, 17) := ⟨⟨by decide +kernel, by decide +kernel⟩, List.mem_of_getElem? (i := 499) (by decide +kernel), List.mem_of_getElem? (i := 590) (by decide +kernel), List.mem_of_getElem? (i := 591) (by decide +kernel)⟩
theorem lw_p13 : lw_okq (⟨"LampRoomModel", "comesOff", "(I)V"⟩, 17) := ⟨⟨by decide +kernel, by decide +kernel⟩, List.mem_of_getElem? (i := 499) (by decide +kernel), List.mem_of_getElem? (i := 600) (by decide +kernel), List.mem_of_getElem? (i := 601) (by decide +kernel)⟩
theorem lw_p14 : lw_okq (⟨"LampRoomModel", "isLamp", "(I)Z"⟩, 17) := ⟨⟨by decide +kernel, by decide +kernel⟩, List.mem_of_getElem? (i := 499) (by decide +kernel), List.mem_of_getElem? (i := 608) (by decide +kernel), List.mem_of_getElem? (i := 609) (by decide +kernel)⟩
theorem lw_p15 : lw_okq (⟨"LampRoomModel", "isWeak", "(I)Z"⟩, 17) := ⟨⟨by decide +kernel, by decide +kernel⟩, List.mem_of_getElem? (i := 499) (by decide +kernel), List.mem_of_getElem? (i := 612) (by decide +kernel), List.mem_of_getElem? (i := 613) (by decide +kernel)⟩
def lw_privs_1 : List (MethodName × Nat) := [(⟨"LampRoom$Tallies", "countAhead", "(I)I"⟩, 6), (⟨"LampRoom$Alarms", "countAhead", "(I)I"⟩, 1), (⟨"LampRoom$Alarms", "isAhead", "(II)Z"⟩, 1), (⟨"java/lang/Throwable", "fillInStackTrace", "(I)Ljava/lang/Throwable;"⟩, 6), (⟨"LampRoom", "checkMiner", "(I)V"⟩, 4), (⟨"LampRoom$Lamps", "fullestOf", "(I)I"⟩, 7), (⟨"LampRoom$Lamps", "isIssuable", "(II)Z"⟩, 7), (⟨"LampRoom", "checkLamp", "(I)V"⟩, 4), (⟨"LampRoom", "passHour", "()I"⟩, 4), (⟨"LampRoom", "beginAlarms", "(II)I"⟩, 4), (⟨"LampRoomModel", "isMiner", "(I)Z"⟩, 17), (⟨"LampRoomModel", "lampFor", "(I)I"⟩, 17), (⟨"LampRoomModel", "isReady", "(I)Z"⟩, 17), (⟨"LampRoomModel", "comesOff", "(I)V"⟩, 17), (⟨"LampRoomModel", "isLamp", "(I)Z"⟩, 17), (⟨"LampRoomModel", "isWeak", "(I)Z"⟩, 17)]
theorem lw_r1 : ∀ q ∈ lw_privs_1, lw_okq q := List.forall_mem_cons.mpr ⟨lw_p0, List.forall_mem_cons.mpr ⟨lw_p1, List.forall_mem_cons.mpr ⟨lw_p2, List.forall_mem_cons.mpr ⟨lw_p3, List.forall_mem_cons.mpr ⟨lw_p4, List.forall_mem_cons.mpr ⟨lw_p5, List.forall_mem_cons.mpr ⟨lw_p6, List.forall_mem_cons.mpr ⟨lw_p7, List.forall_mem_cons.mpr ⟨lw_p8, List.forall_mem_cons.mpr ⟨lw_p9, List.forall_mem_cons.mpr ⟨lw_p10, List.forall_mem_cons.mpr ⟨lw_p11, List.forall_mem_cons.mpr ⟨lw_p12, List.forall_mem_cons.mpr ⟨lw_p13, List.forall_mem_cons.mpr ⟨lw_p14, List.forall_mem_cons.mpr ⟨lw_p15, fun _ h => absurd h List.not_mem_nil⟩⟩⟩⟩⟩⟩⟩⟩⟩⟩⟩⟩⟩⟩⟩⟩
theorem lw_p16 : lw_okq (⟨"LampRoomModel", "goesBy", "()I"⟩, 17) := ⟨⟨by decide +kernel, by decide +kernel⟩, List.mem_of_getElem? (i := 499) (by decide +kernel), List.mem_of_getElem? (i := 625) (by decide +kernel), List.mem_of_getElem? (i := 626) (by decide +kernel)⟩
theorem lw_p17 : lw_okq (⟨"LampRoomModel", "begins", "(IZ)I"⟩, 17) := ⟨⟨by decide +kernel, by decide +kernel⟩, List.mem_of_getElem? (i := 499) (by decide +kernel), List.mem_of_getElem? (i := 631) (by decide +kernel), List.mem_of_getElem? (i := 632) (by decide +kernel)⟩
theorem lw_p18 : lw_okq (⟨"LampRoomModel", "isAlarmed", "(I)Z"⟩, 17) := ⟨⟨by decide +kernel, by decide +kernel⟩, List.mem_of_getElem? (i := 499) (by decide +kernel), List.mem_of_getElem? (i := 635) (by decide +kernel), List.mem_of_getElem? (i := 636) (by decide +kernel)⟩
def lw_privs_2 : List (MethodName × Nat) := [(⟨"LampRoomModel", "goesBy", "()I"⟩, 17), (⟨"LampRoomModel", "begins", "(IZ)I"⟩, 17), (⟨"LampRoomModel", "isAlarmed", "(I)Z"⟩, 17)]
theorem lw_r2 : ∀ q ∈ lw_privs_2, lw_okq q := List.forall_mem_cons.mpr ⟨lw_p16, List.forall_mem_cons.mpr ⟨lw_p17, List.forall_mem_cons.mpr ⟨lw_p18, fun _ h => absurd h List.not_mem_nil⟩⟩⟩
def lw_privs : List (MethodName × Nat) := lw_privs_1 ++ (lw_privs_2)
def lw_tbl : List Cond := k2_sels lw_privs ++ tables_1
theorem lw_privs_ok : ∀ q ∈ lw_privs, lw_okq q := by
  show ∀ q ∈ lw_privs_1 ++ (lw_privs_2), lw_okq q
  exact List.forall_mem_append.mpr ⟨lw_r1, lw_r2⟩
/-- the streams that the claim lets the run draw from -/
abbrev lw_cs : List Choice := [Jvm.Choice.named "NaN.bits"]
theorem lw_bits : nanBits ∈ lw_cs := by first | decide | exact List.mem_cons_self | simp [lw_cs, nanBits]
end
section
/-! ===== BEGIN words of one list among another's, by their places ===== -/
theorem goodIn_r {big : List Cond} (ws : List Cond) (ps : List Nat) (hp : ws = ps.filterMap (fun i => big[i]?)) (h : ws.all goodWord = true) : GoodIn big ws := by
  intro w hw
  have h1 := List.all_eq_true.mp h w hw
  rw [hp] at hw
  obtain ⟨i, -, hi⟩ := List.mem_filterMap.mp hw
  have hm : w ∈ big := by first | exact List.mem_of_getElem? hi | exact List.getElem?_mem hi
  exact ⟨hm, good_of_word h1⟩
theorem goodIn_app {big a b : List Cond} (ha : GoodIn big a) (hb : GoodIn big b) : GoodIn big (a ++ b) := fun w h => (List.mem_append.mp h).elim (ha w) (hb w)
theorem goodIn_ca {big a b : List Cond} {c : Cond} (ha : GoodIn big (c :: a)) (hb : GoodIn big b) : GoodIn big (c :: (a ++ b)) := fun w h => (List.mem_cons.mp h).elim (fun e => ha w (List.mem_cons.mpr (Or.inl e))) (fun h => (List.mem_append.mp h).elim (fun h => ha w (List.mem_cons.mpr (Or.inr h))) (hb w))
theorem goodIn_sub {big ws : List Cond} (hm : ∀ w ∈ ws, w ∈ big) (h : ws.all goodWord = true) : GoodIn big ws := fun w hw => ⟨hm w hw, good_of_word (List.all_eq_true.mp h w hw)⟩
/-! ===== END ===== -/

/-! ===== BEGIN exceptions that leave a method, and their catching by the caller (launches without stack traces) ===== -/
section VXA
/-! The laws vx_back, vx_callV, vx_callS, vx_callSW, vx_throw0, vx_throwS follow proofs of the library, with one case more: JvmDerived/Free/Laws.lean (Back.of_free), Shelf42/LK1.lean (callV, callS), Shelf/KitTraced.lean (throwNew0V, throwNewS). -/
/-- where a method has thrown q: the class by its name, the cell, what was written, the world -/
def vx_T (XC : String → State → State → Prop) (st : State) (q : Addr) (t : State) (mc ms : Nat) (free : Addr → Prop) : Prop :=
  ∃ (E : String) (ce : Cell) (L : List Loc), XC E st t ∧ t.heap[q]? = some ce ∧ ce.vm = .none ∧ st.vm.findClass E = some ce.cls ∧ st.WarmedH t.vm ∧ st.sameButNew ({ t with vm := st.vm } : State) L mc ms ∧ ∀ z ∈ L, free z.base
def vx_Q (Qc : Array Value → State → Outcome → State → Prop) (XC : String → State → State → Prop) (mc ms : Nat) (free : Addr → Prop) : Array Value → State → Outcome → State → Prop := fun a st o t =>
  (Qc a st o t ∧ ∃ L, FrameEnd st o t L mc ms ∧ ∀ q ∈ L, free q.base) ∨ ∃ q, o = .threw q ∧ vx_T XC st q t mc ms free
/-- a callee that returns or throws -/
def vx_Met (l : Launch) (y : MethodName) (ws : List Cond) (rm : Room) (Pc : Array Value → State → Prop) (Qc : Array Value → State → Outcome → State → Prop) (XC : String → State → State → Prop) (mc ms : Nat) (free : Addr → Prop) : Prop :=
  MetFree l y (headSpec ws rm) Pc (fun _ _ _ _ _ => True) (vx_Q Qc XC mc ms free)
def vx_Post (XC : String → State → State → Prop) (mc ms : Nat) (free : Addr → Prop) : Pt → Array Value → Addr → Pt → Prop := fun A a q B =>
  ∃ (g : JFrame) (mk : MethodId) (t : State) (L : List Loc) (E : String) (ce : Cell), B.U.heap = t.heap ∧ B.U.vm = t.vm ∧ XC E (A.U.calling g mk a) t ∧ t.heap[q]? = some ce ∧ ce.vm = .none ∧ A.U.vm.findClass E = some ce.cls ∧ B.locs = A.locs ++ L ∧ (∀ z ∈ L, free z.base) ∧ B.cells = A.cells + mc ∧ B.slots = A.slots + ms
def vx_Back (l : Launch) (R : Room) (p : Program) (e : Env) (below : List Frame) (s : State) (sargs : Array Value) (y : MethodName) (len W9 : Nat)
    (Pre : Pt → Array Value → Prop) (Post : Pt → Array Value → Option Value → Pt → Prop) (PostX : Pt → Array Value → Addr → Pt → Prop) : Prop :=
  ∀ (m : MethodId) (meth : Method) (c : Code) (A : Pt) (g : JFrame) (ig : Instr) (mk : MethodId) (a : Array Value),
    Stand p l e R s m sargs below meth c A.U A.locs A.cells A.slots → g.method = m → g.locals.size = c.maxLocals → decode c.code g.pc = .ok (ig, len) →
    2 * g.monitorRoom + (g.stack.map fun v => v.category).sum ≤ W9 → A.U.methodNamed? y = some mk → Pre A a →
    (∃ (v : Option Value) (B : Pt), Stand p l e R s m sargs below meth c B.U B.locs B.cells B.slots ∧ Post A a v B ∧
      Steps p.tables e below (doInvoke e (A.U.setTop g) [] mk a).1 (B.U.setTop { g with pc := g.pc + len, stack := v.toList ++ g.stack })) ∨
    (∃ (q : Addr) (B : Pt), Stand p l e R s m sargs below meth c B.U B.locs B.cells B.slots ∧ PostX A a q B ∧
      Steps p.tables e below (doInvoke e (A.U.setTop g) [] mk a).1 ((B.U.setTop g).pushFrame (.throwing q)))
section Payer
variable {l : Launch} {R : Room} {p : Program} {e : Env} {below : List Frame} {s : State} {sargs : Array Value} {y : MethodName} {len W9 : Nat}
theorem vx_back {ws : List Cond} {rm : Room} {Pc : Array Value → State → Prop} {Qc : Array Value → State → Outcome → State → Prop} {XC : String → State → State → Prop} {mc ms : Nat} {free : Addr → Prop} {bytes : ByteArray} {maxL : Nat} {ret : Option FieldType}
    (hM : vx_Met l y ws rm Pc Qc XC mc ms free) (hblind : FrameBlind Pc) (hrc : rm.cells = mc) (hrs : rm.slots = ms)
    (hframes : rm.frames + 1 ≤ R.frames) (hlocals : W9 + (maxL + 11) + rm.locals ≤ R.locals)
    (hws : ∀ w ∈ ws, ∀ a' U, s.WarmedH U.vm → w.before a' U = true) (hcode : Cond.code y bytes maxL ret ∈ ws) (hinit : ∀ a' U, s.WarmedH U.vm → (Cond.initialized y.cls).before a' U = true) :
    vx_Back l R p e below s sargs y len W9 (PreOf R mc ms Pc) (PostOf Qc mc ms free) (vx_Post XC mc ms free) := by
  intro m meth c A g ig mk a X hg hsize hdg hW hn hp
  have h1 : (headSpec ws rm).pre.before a A.U = true := atoms_intro fun w hw => hws w hw _ _ X.warmed
  have h2 : (Cond.code y bytes maxL ret).before a A.U = true := hws _ hcode _ _ X.warmed
  have h3 : (Cond.initialized y.cls).before a A.U = true := hinit _ _ X.warmed
  have h4 : A.cells + (headSpec ws rm).room.cells ≤ R.cells := by rw [show (headSpec ws rm).room.cells = mc from hrc]; exact hp.1
  have h5 : A.slots + (headSpec ws rm).room.slots ≤ R.slots := by rw [show (headSpec ws rm).room.slots = ms from hrs]; exact hp.2.1
  have hPc : Pc a (A.U.calling g mk a) := hblind _ _ _ _ hp.2.2
  obtain ⟨U, Ls, c0, s0⟩ := A
  dsimp only [Pt.U, Pt.locs, Pt.cells, Pt.slots] at h1 h2 h3 h4 h5 X hn hPc ⊢
  obtain ⟨methY, cY, hmY, hcY, -, hlY, -, -, -, -⟩ := Cond.code_spec hn h2
  obtain ⟨kY, hkY, -⟩ := className_of_methodNamed hn
  have hinitY : kY.init = .initialized := Cond.initialized_spec (findClass_of_methodNamed hn) hkY h3
  have h : At U g.method c below := by rw [hg]; exact X.here
  have hlocals9 : W9 + (maxL + 11) + (headSpec ws rm).room.locals ≤ R.locals := hlocals
  have happ : (headSpec ws rm).appliesLoose y e.platform (U.calling g mk a) = true :=
    Spec.appliesLoose_calling (g := g) h hdg hn hkY hinitY
      (X.room_calling (g := g) (R' := (headSpec ws rm).room) hsize hmY hcY hframes (by rw [hlY]; omega) h4 h5) h1
  obtain ⟨mid, hmid⟩ := h.above
  have hfr : (U.setTop g).frames = (.java g :: mid) ++ below := by rw [State.frames_setTop' g h.top, hmid]; rfl
  obtain ⟨o, s₂, hsteps, -, hend, hq⟩ := Steps.callFree hM p X.admits X.cas X.clock (acts := []) hfr happ hPc trivial
  have hq' : vx_Q Qc XC mc ms free a (U.calling g mk a) o s₂ := hq
  rw [State.frames_setTop' g h.top] at hend
  obtain ⟨g₀, hg0⟩ := Option.isSome_iff_exists.mp h.top
  obtain ⟨r, hr⟩ := State.topJava?_eq_some.mp hg0
  have hr' : (({ U with heap := s₂.heap, slotsUsed := s₂.slotsUsed } : State).setVm s₂.vm).frames = .java g₀ :: r := hr
  rcases hq' with ⟨hqc, L, hfe, hL⟩ | ⟨q, rfl, E, ce, L, hx, hce, hcv, hcl, hW₂, hsm, hL⟩
  · obtain ⟨⟨v, rfl⟩, hW₂, e2, q2, q3, q4, q5, q6⟩ := id hfe
    have e3 : s₂ = ({ (U.calling g mk a).setFrames s₂.frames with heap := s₂.heap, slotsUsed := s₂.slotsUsed } : State).setVm s₂.vm := by
      have : s₂ = ({ s₂ with vm := (U.calling g mk a).vm } : State).setVm s₂.vm := rfl
      rw [e2] at this
      exact this
    obtain ⟨c₂, i₂, len₂, hc₂, hd₂, hf₂⟩ := hend
    have hW' : U.WarmedH s₂.vm := hW₂
    have hcc : c₂ = c := by
      have h1 : s₂.code? g.method = U.code? g.method := by
        rw [State.code?_eq, State.code?_eq, hW'.alike.method?]
      exact Option.some.inj (hc₂.symm.trans (h1.trans h.code))
    subst hcc
    have hlen : len₂ = len := by rw [hdg] at hd₂; cases hd₂; rfl
    subst hlen
    have hs₂ : s₂ = (({ U with heap := s₂.heap, slotsUsed := s₂.slotsUsed } : State).setVm s₂.vm).setTop { g with pc := g.pc + len₂, stack := v.toList ++ g.stack } := by
      refine e3.trans ?_
      rw [hf₂, State.calling_eq h.top, State.setFrames_setFrames, State.setTop_of_frames _ hr', hr]
      rfl
    have hsame : U.sameButNew ({ U with heap := s₂.heap, slotsUsed := s₂.slotsUsed } : State) L mc ms := by
      refine ⟨?_, q2, q3, q4, q5, q6⟩
      obtain ⟨t, ht, -⟩ := State.frames_cons hr
      show ({ U with heap := s₂.heap, slotsUsed := s₂.slotsUsed } : State) = { U.setFrames U.frames with heap := s₂.heap, slotsUsed := s₂.slotsUsed }
      rw [State.setFrames_self ht]
    subst hg
    refine Or.inl ⟨v, ⟨(({ U with heap := s₂.heap, slotsUsed := s₂.slotsUsed } : State).setVm s₂.vm), Ls ++ L, c0 + mc, s0 + ms⟩,
      ⟨X.admits, X.cas, X.clock, X.frames, X.room, X.hears, X.method, X.code, (X.here.setHeapUsed s₂.heap s₂.slotsUsed).setVm hW'.alike, X.tail, State.WarmedH.trans X.warmed hW', X.limits, X.bytes, X.same.trans (hsame.setVm s.vm)⟩,
      ⟨g, mk, s₂, L, rfl, rfl, hqc, rfl, hL, rfl, rfl⟩, ?_⟩
    show Steps p.tables e below _ ((({ U with heap := s₂.heap, slotsUsed := s₂.slotsUsed } : State).setVm s₂.vm).setTop { g with pc := g.pc + len₂, stack := v.toList ++ g.stack })
    rw [← hs₂]
    exact hsteps
  · obtain ⟨e2, q2, q3, q4, q5, q6⟩ := id hsm
    have e3 : s₂ = ({ (U.calling g mk a).setFrames s₂.frames with heap := s₂.heap, slotsUsed := s₂.slotsUsed } : State).setVm s₂.vm := by
      have : s₂ = ({ s₂ with vm := (U.calling g mk a).vm } : State).setVm s₂.vm := rfl
      rw [e2] at this
      exact this
    have hf₂ : s₂.frames = .throwing q :: .java g :: U.frames.tail := hend
    have hW' : U.WarmedH s₂.vm := hW₂
    have hs₂ : s₂ = ((({ U with heap := s₂.heap, slotsUsed := s₂.slotsUsed } : State).setVm s₂.vm).setTop g).pushFrame (.throwing q) := by
      refine e3.trans ?_
      rw [hf₂, State.calling_eq h.top, State.setFrames_setFrames, State.pushFrame, State.frames_setTop _ hr', State.setTop_of_frames _ hr', State.setFrames_setFrames, hr]
      rfl
    have hsame : U.sameButNew ({ U with heap := s₂.heap, slotsUsed := s₂.slotsUsed } : State) L mc ms := by
      refine ⟨?_, q2, q3, q4, q5, q6⟩
      obtain ⟨t, ht, -⟩ := State.frames_cons hr
      show ({ U with heap := s₂.heap, slotsUsed := s₂.slotsUsed } : State) = { U.setFrames U.frames with heap := s₂.heap, slotsUsed := s₂.slotsUsed }
      rw [State.setFrames_self ht]
    subst hg
    refine Or.inr ⟨q, ⟨(({ U with heap := s₂.heap, slotsUsed := s₂.slotsUsed } : State).setVm s₂.vm), Ls ++ L, c0 + mc, s0 + ms⟩,
      ⟨X.admits, X.cas, X.clock, X.frames, X.room, X.hears, X.method, X.code, (X.here.setHeapUsed s₂.heap s₂.slotsUsed).setVm hW'.alike, X.tail, State.WarmedH.trans X.warmed hW', X.limits, X.bytes, X.same.trans (hsame.setVm s.vm)⟩,
      ⟨g, mk, s₂, L, E, ce, rfl, rfl, hx, hce, hcv, hcl, rfl, hL, rfl, rfl⟩, ?_⟩
    show Steps p.tables e below _ (((({ U with heap := s₂.heap, slotsUsed := s₂.slotsUsed } : State).setVm s₂.vm).setTop g).pushFrame (.throwing q))
    rw [← hs₂]
    exact hsteps
end Payer
section Calls
variable {p : Program} {l : Launch} {e : Env} {R : Room} {s : State} {m : MethodId} {args : Array Value} {below : List Frame} {meth : Method} {c : Code} {T : State} {locs : List Loc} {cells slots : Nat}
theorem vx_callV (X : Stand p l e R s m args below meth c T locs cells slots) (hexec : p.tables.exec = Jvm.exec) {own C : String} {index : Nat} {y : MethodName} {bytes : ByteArray} {maxL : Nat} {ret : Option FieldType}
    (hown : s.vm.findClass own = some m.cls) (hlink : (Cond.methodLink own index y).before args s = true) (hinst : (Cond.instanceMethod y).before args s = true) (hsel : (Cond.selects C y y).before args s = true)
    (hcode : (Cond.code y bytes maxL ret).before args s = true) (hy : y.cls ≠ "java/lang/invoke/MethodHandle" ∧ y.cls ≠ "java/lang/invoke/VarHandle")
    {W9 : Nat} {Pre : Pt → Array Value → Prop} {Post : Pt → Array Value → Option Value → Pt → Prop} {PostX : Pt → Array Value → Addr → Pt → Prop} (hK : vx_Back l R p e below s args y 3 W9 Pre Post PostX)
    {b : Addr} {cellB : Cell} (hcell : T.heap[b]? = some cellB) (hobj : cellB.vm.isStatics = false) (hcls : s.vm.findClass C = some cellB.cls)
    {g : JFrame} (hg : g.method = m) (hsize : g.locals.size = c.maxLocals) {argsL rest : List Value} (hlen : ∀ sig, parseMethodDescriptor y.desc = some sig → argsL.length = sig.parameters.length)
    (hstack : g.stack = argsL.reverse ++ .ref b :: rest) (hW : 2 * g.monitorRoom + (rest.map fun v => v.category).sum ≤ W9) (hdg : decode c.code g.pc = .ok (.invokevirtual index, 3))
    (hpre : ∀ vm₁, s.WarmedH vm₁ → Pre ⟨T.setVm vm₁, locs, cells, slots⟩ (Value.ref b :: argsL).toArray) :
    (∃ (v : Option Value) (vm₁ : Vm) (B : Pt), s.WarmedH vm₁ ∧ Stand p l e R s m args below meth c B.U B.locs B.cells B.slots ∧ Post ⟨T.setVm vm₁, locs, cells, slots⟩ (Value.ref b :: argsL).toArray v B ∧
      ∀ target, Steps p.tables e below (B.U.setTop { g with pc := g.pc + 3, stack := v.toList ++ rest }) target → Steps p.tables e below (T.setTop g) target) ∨
    (∃ (q : Addr) (vm₁ : Vm) (B : Pt), s.WarmedH vm₁ ∧ Stand p l e R s m args below meth c B.U B.locs B.cells B.slots ∧ PostX ⟨T.setVm vm₁, locs, cells, slots⟩ (Value.ref b :: argsL).toArray q B ∧
      Steps p.tables e below (T.setTop g) ((B.U.setTop { g with stack := rest }).pushFrame (.throwing q))) := by
  obtain ⟨mk, methM, hnamed, hmethM, hstM, habM⟩ := Cond.instanceMethod_spec hinst
  obtain ⟨methM', cM, hmethM', -, -, -, -, -, -, hsigM⟩ := Cond.code_spec hnamed hcode
  cases hmethM.symm.trans hmethM'
  obtain ⟨c2, r2, m2, q1, q2, q3, q4, kP, hkP, hkPi⟩ := Cond.selects_spec hsel
  cases hcls.symm.trans q1
  cases (State.methodFound?_of_named hnamed hy).symm.trans q2
  cases hnamed.symm.trans q3
  have hselP : selectMethod e.platform s.vm cellB.cls mk = .method mk := by rw [Launch.admits_selectMethod X.admits]; exact q4
  obtain ⟨vm₁, X₁, hstep₁⟩ := X.invokevirtual hexec hown hlink hnamed hmethM hstM hkP hkPi hy (a := b) (cell := cellB) hcell
    (fun z h => by rw [h] at hobj; cases hobj) hselP hmethM habM hkP hkPi (g := g) hg (argsL := argsL) (rest := rest) (hlen _ hsigM) hstack hdg
  rcases hK m meth c ⟨T.setVm vm₁, locs, cells, slots⟩ { g with stack := rest } (.invokevirtual index) mk (Value.ref b :: argsL).toArray X₁ hg hsize hdg hW (X₁.named hnamed) (hpre vm₁ X₁.warmed) with ⟨v, B, X', hpost, hsteps⟩ | ⟨q, B, X', hpost, hsteps⟩
  · exact Or.inl ⟨v, vm₁, B, X₁.warmed, X', hpost, fun target h => hstep₁ _ fun acts => by rw [doInvoke_state]; exact hsteps.trans h⟩
  · exact Or.inr ⟨q, vm₁, B, X₁.warmed, X', hpost, hstep₁ _ fun acts => by rw [doInvoke_state]; exact hsteps⟩
theorem vx_callS (X : Stand p l e R s m args below meth c T locs cells slots) (hexec : p.tables.exec = Jvm.exec) {own : String} {index : Nat} {y : MethodName} {bytes : ByteArray} {maxL : Nat} {ret : Option FieldType}
    (hown : s.vm.findClass own = some m.cls) (hlink : (Cond.methodLink own index y).before args s = true) (hstat : (Cond.static y).before args s = true) (hinit : (Cond.initialized y.cls).before args s = true)
    (hcode : (Cond.code y bytes maxL ret).before args s = true) (hy : y.cls ≠ "java/lang/invoke/MethodHandle" ∧ y.cls ≠ "java/lang/invoke/VarHandle")
    {W9 : Nat} {Pre : Pt → Array Value → Prop} {Post : Pt → Array Value → Option Value → Pt → Prop} {PostX : Pt → Array Value → Addr → Pt → Prop} (hK : vx_Back l R p e below s args y 3 W9 Pre Post PostX)
    {g : JFrame} (hg : g.method = m) (hsize : g.locals.size = c.maxLocals) {argsL rest : List Value} (hlen : ∀ sig, parseMethodDescriptor y.desc = some sig → argsL.length = sig.parameters.length)
    (hstack : g.stack = argsL.reverse ++ rest) (hW : 2 * g.monitorRoom + (rest.map fun v => v.category).sum ≤ W9) (hdg : decode c.code g.pc = .ok (.invokestatic index, 3))
    (hpre : ∀ vm₁, s.WarmedH vm₁ → Pre ⟨T.setVm vm₁, locs, cells, slots⟩ argsL.toArray) :
    (∃ (v : Option Value) (vm₁ : Vm) (B : Pt), s.WarmedH vm₁ ∧ Stand p l e R s m args below meth c B.U B.locs B.cells B.slots ∧ Post ⟨T.setVm vm₁, locs, cells, slots⟩ argsL.toArray v B ∧
      ∀ target, Steps p.tables e below (B.U.setTop { g with pc := g.pc + 3, stack := v.toList ++ rest }) target → Steps p.tables e below (T.setTop g) target) ∨
    (∃ (q : Addr) (vm₁ : Vm) (B : Pt), s.WarmedH vm₁ ∧ Stand p l e R s m args below meth c B.U B.locs B.cells B.slots ∧ PostX ⟨T.setVm vm₁, locs, cells, slots⟩ argsL.toArray q B ∧
      Steps p.tables e below (T.setTop g) ((B.U.setTop { g with stack := rest }).pushFrame (.throwing q))) := by
  obtain ⟨mk, hnamed⟩ := Cond.code_named hcode
  obtain ⟨methM, cM, hmethM, -, -, -, -, -, -, hsigM⟩ := Cond.code_spec hnamed hcode
  have hstatic : methM.isStatic = true := Cond.static_spec hnamed hmethM hstat
  obtain ⟨kP, hkP, -⟩ := className_of_methodNamed hnamed
  have hinitP : kP.init = .initialized := Cond.initialized_spec (findClass_of_methodNamed hnamed) hkP hinit
  obtain ⟨vm₁, X₁, hstep₁⟩ := X.invokestatic hexec hown hlink hnamed hmethM hstatic hkP hinitP hy (g := g) hg (argsL := argsL) (rest := rest) (hlen _ hsigM) hstack hdg
  rcases hK m meth c ⟨T.setVm vm₁, locs, cells, slots⟩ { g with stack := rest } (.invokestatic index) mk argsL.toArray X₁ hg hsize hdg hW (X₁.named hnamed) (hpre vm₁ X₁.warmed) with ⟨v, B, X', hpost, hsteps⟩ | ⟨q, B, X', hpost, hsteps⟩
  · exact Or.inl ⟨v, vm₁, B, X₁.warmed, X', hpost, fun target h => hstep₁ _ fun acts => by rw [doInvoke_state]; exact hsteps.trans h⟩
  · exact Or.inr ⟨q, vm₁, B, X₁.warmed, X', hpost, hstep₁ _ fun acts => by rw [doInvoke_state]; exact hsteps⟩
end Calls
theorem vx_cls {s : State} {T : State} {vm₁ : Vm} {E : String} {k : ClassId} (hW : s.WarmedH vm₁) (h : (T.setVm vm₁).vm.findClass E = some k) : s.vm.findClass E = some k := by
  have h1 : vm₁.findClass E = some k := h
  rw [hW.alike.findClass] at h1
  exact h1
/-- the method's frame g, with q thrown over it -/
def vx_W (p : Program) (l : Launch) (e : Env) (R : Room) (s : State) (m : MethodId) (args : Array Value) (below : List Frame) (meth : Method) (c : Code) (H : Heap) (locs : List Loc) (cells slots : Nat) (Q : State → Prop) (g : JFrame) (q : Addr) : Prop :=
  ∀ T : State, T.heap = H → Stand p l e R s m args below meth c T locs cells slots → ∃ t, Steps p.tables e below ((T.setTop g).pushFrame (.throwing q)) t ∧ Q t
def vx_Run (p : Program) (l : Launch) (e : Env) (R : Room) (s : State) (m : MethodId) (args : Array Value) (below : List Frame) (meth : Method) (c : Code) (H : Heap) (locs : List Loc) (cells slots mc ms : Nat) (g : JFrame) (rest : List Value) (Qa : State → Outcome → State → Prop) (XC : String → State → State → Prop) (free : Addr → Prop) : Prop :=
  ∀ T : State, T.heap = H → Stand p l e R s m args below meth c T locs cells slots →
    (∃ (v : Option Value) (st₀ t T' : State) (L : List Loc), st₀.heap = H ∧ Stand p l e R s m args below meth c T' (locs ++ L) (cells + mc) (slots + ms) ∧ (∀ q ∈ L, free q.base) ∧ T'.heap = t.heap ∧ T'.vm = t.vm ∧ Qa st₀ (.returned v) t ∧
      Goes p e below T g T' { g with pc := g.pc + 3, stack := v.toList ++ rest }) ∨
    (∃ (q : Addr) (st₀ t T' : State) (L : List Loc) (E : String) (ce : Cell), st₀.heap = H ∧ Stand p l e R s m args below meth c T' (locs ++ L) (cells + mc) (slots + ms) ∧ (∀ z ∈ L, free z.base) ∧ T'.heap = t.heap ∧ T'.vm = t.vm ∧ XC E st₀ t ∧ t.heap[q]? = some ce ∧ ce.vm = .none ∧ s.vm.findClass E = some ce.cls ∧
      Steps p.tables e below (T.setTop g) ((T'.setTop { g with stack := rest }).pushFrame (.throwing q)))
def vx_X {S : Type} (px : S → Prop) (B : String → S → State → Prop) (A : Nat → Prop) : String → State → State → Prop := fun E st t => ∃ u : S, px u ∧ B E u t ∧ va_F A st t
section Runs
variable {p : Program} {l : Launch} {e : Env} {R : Room} {s : State} {m : MethodId} {args : Array Value} {below : List Frame} {meth : Method} {c : Code} {H : Heap} {locs : List Loc} {cells slots : Nat}
variable {y : MethodName} {bytes cc : ByteArray} {maxL nL mc ms n index : Nat} {ret : Option FieldType} {ws : List Cond} {rm : Room} {Pc : Array Value → State → Prop} {Qc : Array Value → State → Outcome → State → Prop} {XC : String → State → State → Prop} {free : Addr → Prop} {Ts : List Cond} {own C : String} {b : Addr} {As rest : List Value} {g : JFrame}
theorem vx_callBack (cb : CallB R s args own index y bytes maxL ret ws rm mc ms n) (hM : vx_Met l y ws rm Pc Qc XC mc ms free) (hbl : FrameBlind Pc) : vx_Back l R p e below s args y 3 8 (PreOf R mc ms Pc) (PostOf Qc mc ms free) (vx_Post XC mc ms free) := by
  obtain ⟨hrc, hrs, hfr, hlo, hws, hcw, -, hini, -⟩ := cb
  exact vx_back (bytes := bytes) (maxL := maxL) (ret := ret) hM hbl hrc hrs hfr hlo hws hcw (fun a' U hW => word_at hW (Or.inl (by first | rfl | simp [Cond.onTables, Cond.keeps, Cond.steady])) hini)
theorem vx_runV (S : CallFix p m c cc nL s args Ts own) (hM : vx_Met l y ws rm Pc Qc XC mc ms free) (cw : CallW R s args own C index y bytes maxL ret ws rm mc ms n) (hp : PreV s H C b Pc As)
    (hg : g.method = m) (hn : As.length = n) (hsize : g.locals.size = nL) (hstack : g.stack = As.reverse ++ .ref b :: rest) (hW : 2 * g.monitorRoom + (rest.map fun v => v.category).sum ≤ 8) (hdg : decode cc g.pc = .ok (.invokevirtual index, 3)) (hf : cells + mc ≤ R.cells ∧ slots + ms ≤ R.slots) :
    vx_Run p l e R s m args below meth c H locs cells slots mc ms g rest (Qc (Value.ref b :: As).toArray) XC free := by
  have hK : vx_Back l R p e below s args y 3 8 (PreOf R mc ms Pc) (PostOf Qc mc ms free) (vx_Post XC mc ms free) := vx_callBack cw.1 hM hp.1
  obtain ⟨⟨-, -, -, -, -, -, hcode, -, hy, hlen, hl⟩, hin, hse⟩ := cw
  obtain ⟨hx, hb, hml, ho, -⟩ := S
  obtain ⟨-, ⟨cellB, hcB, hoB, hclB⟩, hPc⟩ := hp
  intro T hT X
  rcases vx_callV X hx (C := C) (bytes := bytes) (maxL := maxL) (ret := ret) ho hl hin hse hcode hy hK (by rw [hT]; exact hcB) hoB hclB hg (hsize.trans hml.symm) (argsL := As) (rest := rest) (fun sig h => hn.trans (hlen sig h)) hstack hW (by rw [hb]; exact hdg)
    (fun vm₁ hW₁ => ⟨hf.1, hf.2, hPc (T.setVm vm₁) hT hW₁⟩) with ⟨v, vm₁, ⟨U', l2, c2, s2⟩, hW₁, X', ⟨g', mk, t, L, e1, e2, hq, h1, hL, h2, h3⟩, st⟩ | ⟨q, vm₁, ⟨U', l2, c2, s2⟩, hW₁, X', ⟨g', mk, t, L, E, ce, e1, e2, hq, hce, hcv, hcl, h1, hL, h2, h3⟩, st⟩
  · dsimp only [Pt.U, Pt.locs, Pt.cells, Pt.slots] at X' e1 e2 h1 h2 h3 st
    subst h1; subst h2; subst h3
    exact Or.inl ⟨v, (T.setVm vm₁).calling g' mk (Value.ref b :: As).toArray, t, U', L, hT, X', hL, e1, e2, hq, st⟩
  · dsimp only [Pt.U, Pt.locs, Pt.cells, Pt.slots] at X' e1 e2 h1 h2 h3 st hcl
    subst h1; subst h2; subst h3
    exact Or.inr ⟨q, (T.setVm vm₁).calling g' mk (Value.ref b :: As).toArray, t, U', L, E, ce, hT, X', hL, e1, e2, hq, hce, hcv, vx_cls hW₁ hcl, st⟩
theorem vx_runS (S : CallFix p m c cc nL s args Ts own) (hM : vx_Met l y ws rm Pc Qc XC mc ms free) (cw : CallB R s args own index y bytes maxL ret ws rm mc ms n ∧ (Cond.static y).before args s = true) (hp : PreS s H Pc As)
    (hg : g.method = m) (hn : As.length = n) (hsize : g.locals.size = nL) (hstack : g.stack = As.reverse ++ rest) (hW : 2 * g.monitorRoom + (rest.map fun v => v.category).sum ≤ 8) (hdg : decode cc g.pc = .ok (.invokestatic index, 3)) (hf : cells + mc ≤ R.cells ∧ slots + ms ≤ R.slots) :
    vx_Run p l e R s m args below meth c H locs cells slots mc ms g rest (Qc As.toArray) XC free := by
  have hK : vx_Back l R p e below s args y 3 8 (PreOf R mc ms Pc) (PostOf Qc mc ms free) (vx_Post XC mc ms free) := vx_callBack cw.1 hM hp.1
  obtain ⟨⟨-, -, -, -, -, -, hcode, hini, hy, hlen, hl⟩, hstt⟩ := cw
  obtain ⟨hx, hb, hml, ho, -⟩ := S
  intro T hT X
  rcases vx_callS X hx (bytes := bytes) (maxL := maxL) (ret := ret) ho hl hstt hini hcode hy hK hg (hsize.trans hml.symm) (argsL := As) (rest := rest) (fun sig h => hn.trans (hlen sig h)) hstack hW (by rw [hb]; exact hdg)
    (fun vm₁ hW₁ => ⟨hf.1, hf.2, hp.2 (T.setVm vm₁) hT hW₁⟩) with ⟨v, vm₁, ⟨U', l2, c2, s2⟩, hW₁, X', ⟨g', mk, t, L, e1, e2, hq, h1, hL, h2, h3⟩, st⟩ | ⟨q, vm₁, ⟨U', l2, c2, s2⟩, hW₁, X', ⟨g', mk, t, L, E, ce, e1, e2, hq, hce, hcv, hcl, h1, hL, h2, h3⟩, st⟩
  · dsimp only [Pt.U, Pt.locs, Pt.cells, Pt.slots] at X' e1 e2 h1 h2 h3 st
    subst h1; subst h2; subst h3
    exact Or.inl ⟨v, (T.setVm vm₁).calling g' mk As.toArray, t, U', L, hT, X', hL, e1, e2, hq, st⟩
  · dsimp only [Pt.U, Pt.locs, Pt.cells, Pt.slots] at X' e1 e2 h1 h2 h3 st hcl
    subst h1; subst h2; subst h3
    exact Or.inr ⟨q, (T.setVm vm₁).calling g' mk As.toArray, t, U', L, E, ce, hT, X', hL, e1, e2, hq, hce, hcv, vx_cls hW₁ hcl, st⟩
end Runs
section Rows
variable {p : Program} {l : Launch} {e : Env} {R : Room} {s : State} {m : MethodId} {args : Array Value} {below : List Frame} {meth : Method} {c : Code} {H : Heap} {locs : List Loc} {cells slots : Nat} {Q : State → Prop}
variable {mc ms : Nat} {free : Addr → Prop} {A0 A1 : Nat → Prop} {H0 : Heap} {a : Array Value} {pc : Nat} {ls : Array Slot} {st0 rest : List Value}
theorem vx_keep {st₀ t T' : State} {L : List Loc} (h0 : st₀.heap = H) (e1 : T'.heap = t.heap) (hS : va_S A0 H0 H locs) (hA : ∀ q, q < H.size → A1 q → A0 q) (hf : ∀ q, free q → A0 q) (hL : ∀ q ∈ L, free q.base) (hF : va_F A1 st₀ t) :
    H.size ≤ T'.heap.size ∧ (∀ q : Nat, q < H.size → ¬ A1 q → T'.heap[q]? = H[q]?) ∧ va_S A0 H0 T'.heap (locs ++ L) := by
  obtain ⟨hz, hk⟩ := hF
  rw [h0] at hz hk
  exact ⟨by rw [e1]; exact hz, fun q h1 h2 => by rw [e1]; exact hk q h1 h2,
    ⟨Nat.le_trans hS.1 (by rw [e1]; exact hz), fun q h1 h2 => by rw [e1, hk q (Nat.lt_of_lt_of_le h1 hS.1) (fun z => h2 (hA q (Nat.lt_of_lt_of_le h1 hS.1) z))]; exact hS.2.1 q h1 h2, fun q hq => by
      rcases List.mem_append.mp hq with h | h
      · exact hS.2.2 q h
      · exact hf _ (hL q h)⟩⟩
theorem vx_calli {S SX : Type} {post : Int32 → S → Prop} {px : SX → Prop} {B : S → State → Prop} {BX : String → SX → State → Prop} {AX : Nat → Prop} (hr : vx_Run p l e R s m args below meth c H locs cells slots mc ms (F0 m pc ls st0) rest (va_Qi post B A1 a) (vx_X px BX AX) free) (hS : va_S A0 H0 H locs) (hA : ∀ q, q < H.size → A1 q → A0 q) (hf : ∀ q, free q → A0 q) (hAX : ∀ q, q < H.size → AX q → A0 q)
    (kx : ∀ (E : String) (ce : Cell) (q9 : Addr) (u : SX) (t : State) (H1 : Heap) (locs1 : List Loc), t.heap = H1 → s.vm.Alike t.vm → px u → BX E u t → H.size ≤ H1.size → (∀ q : Nat, q < H.size → ¬ AX q → H1[q]? = H[q]?) → va_S A0 H0 H1 locs1 → H1[q9]? = some ce → ce.vm = .none → s.vm.findClass E = some ce.cls → vx_W p l e R s m args below meth c H1 locs1 (cells + mc) (slots + ms) Q (F0 m pc ls rest) q9)
    (kk : ∀ (r : Int32) (u : S) (t : State) (H1 : Heap) (locs1 : List Loc), t.heap = H1 → s.vm.Alike t.vm → post r u → B u t → H.size ≤ H1.size → (∀ q : Nat, q < H.size → ¬ A1 q → H1[q]? = H[q]?) → va_S A0 H0 H1 locs1 → W p l e R s m args below meth c H1 locs1 (cells + mc) (slots + ms) Q (F0 m (pc + 3) ls (.int r :: rest))) : W p l e R s m args below meth c H locs cells slots Q (F0 m pc ls st0) := by
  intro T hT X
  rcases hr T hT X with ⟨v, st₀, t, T', L, h0, X', hL, e1, e2, ⟨⟨r, u, hv, hp, hb⟩, hF⟩, st⟩ | ⟨q, st₀, t, T', L, E, ce, h0, X', hL, e1, e2, ⟨u, hp, hb, hF⟩, hce, hcv, hcl, st⟩
  · cases hv
    obtain ⟨k1, k2, k3⟩ := vx_keep h0 e1 hS hA hf hL hF
    obtain ⟨t2, a1, b1⟩ := kk r u t T'.heap (locs ++ L) e1.symm (by rw [← e2]; exact X'.warmed.alike) hp hb k1 k2 k3 T' rfl X'
    exact ⟨t2, st t2 a1, b1⟩
  · obtain ⟨k1, k2, k3⟩ := vx_keep h0 e1 hS hAX hf hL hF
    obtain ⟨t2, a1, b1⟩ := kx E ce q u t T'.heap (locs ++ L) e1.symm (by rw [← e2]; exact X'.warmed.alike) hp hb k1 k2 k3 (by rw [e1]; exact hce) hcv hcl T' rfl X'
    exact ⟨t2, st.trans a1, b1⟩
theorem vx_calll {S SX : Type} {post : Int64 → S → Prop} {px : SX → Prop} {B : S → State → Prop} {BX : String → SX → State → Prop} {AX : Nat → Prop} (hr : vx_Run p l e R s m args below meth c H locs cells slots mc ms (F0 m pc ls st0) rest (va_Ql post B A1 a) (vx_X px BX AX) free) (hS : va_S A0 H0 H locs) (hA : ∀ q, q < H.size → A1 q → A0 q) (hf : ∀ q, free q → A0 q) (hAX : ∀ q, q < H.size → AX q → A0 q)
    (kx : ∀ (E : String) (ce : Cell) (q9 : Addr) (u : SX) (t : State) (H1 : Heap) (locs1 : List Loc), t.heap = H1 → s.vm.Alike t.vm → px u → BX E u t → H.size ≤ H1.size → (∀ q : Nat, q < H.size → ¬ AX q → H1[q]? = H[q]?) → va_S A0 H0 H1 locs1 → H1[q9]? = some ce → ce.vm = .none → s.vm.findClass E = some ce.cls → vx_W p l e R s m args below meth c H1 locs1 (cells + mc) (slots + ms) Q (F0 m pc ls rest) q9)
    (kk : ∀ (r : Int64) (u : S) (t : State) (H1 : Heap) (locs1 : List Loc), t.heap = H1 → s.vm.Alike t.vm → post r u → B u t → H.size ≤ H1.size → (∀ q : Nat, q < H.size → ¬ A1 q → H1[q]? = H[q]?) → va_S A0 H0 H1 locs1 → W p l e R s m args below meth c H1 locs1 (cells + mc) (slots + ms) Q (F0 m (pc + 3) ls (.long r :: rest))) : W p l e R s m args below meth c H locs cells slots Q (F0 m pc ls st0) := by
  intro T hT X
  rcases hr T hT X with ⟨v, st₀, t, T', L, h0, X', hL, e1, e2, ⟨⟨r, u, hv, hp, hb⟩, hF⟩, st⟩ | ⟨q, st₀, t, T', L, E, ce, h0, X', hL, e1, e2, ⟨u, hp, hb, hF⟩, hce, hcv, hcl, st⟩
  · cases hv
    obtain ⟨k1, k2, k3⟩ := vx_keep h0 e1 hS hA hf hL hF
    obtain ⟨t2, a1, b1⟩ := kk r u t T'.heap (locs ++ L) e1.symm (by rw [← e2]; exact X'.warmed.alike) hp hb k1 k2 k3 T' rfl X'
    exact ⟨t2, st t2 a1, b1⟩
  · obtain ⟨k1, k2, k3⟩ := vx_keep h0 e1 hS hAX hf hL hF
    obtain ⟨t2, a1, b1⟩ := kx E ce q u t T'.heap (locs ++ L) e1.symm (by rw [← e2]; exact X'.warmed.alike) hp hb k1 k2 k3 (by rw [e1]; exact hce) hcv hcl T' rfl X'
    exact ⟨t2, st.trans a1, b1⟩
theorem vx_callf {S SX : Type} {post : UInt32 → S → Prop} {px : SX → Prop} {B : S → State → Prop} {BX : String → SX → State → Prop} {AX : Nat → Prop} (hr : vx_Run p l e R s m args below meth c H locs cells slots mc ms (F0 m pc ls st0) rest (va_Qf post B A1 a) (vx_X px BX AX) free) (hS : va_S A0 H0 H locs) (hA : ∀ q, q < H.size → A1 q → A0 q) (hf : ∀ q, free q → A0 q) (hAX : ∀ q, q < H.size → AX q → A0 q)
    (kx : ∀ (E : String) (ce : Cell) (q9 : Addr) (u : SX) (t : State) (H1 : Heap) (locs1 : List Loc), t.heap = H1 → s.vm.Alike t.vm → px u → BX E u t → H.size ≤ H1.size → (∀ q : Nat, q < H.size → ¬ AX q → H1[q]? = H[q]?) → va_S A0 H0 H1 locs1 → H1[q9]? = some ce → ce.vm = .none → s.vm.findClass E = some ce.cls → vx_W p l e R s m args below meth c H1 locs1 (cells + mc) (slots + ms) Q (F0 m pc ls rest) q9)
    (kk : ∀ (r : UInt32) (u : S) (t : State) (H1 : Heap) (locs1 : List Loc), t.heap = H1 → s.vm.Alike t.vm → post r u → B u t → H.size ≤ H1.size → (∀ q : Nat, q < H.size → ¬ A1 q → H1[q]? = H[q]?) → va_S A0 H0 H1 locs1 → W p l e R s m args below meth c H1 locs1 (cells + mc) (slots + ms) Q (F0 m (pc + 3) ls (.float r :: rest))) : W p l e R s m args below meth c H locs cells slots Q (F0 m pc ls st0) := by
  intro T hT X
  rcases hr T hT X with ⟨v, st₀, t, T', L, h0, X', hL, e1, e2, ⟨⟨r, u, hv, hp, hb⟩, hF⟩, st⟩ | ⟨q, st₀, t, T', L, E, ce, h0, X', hL, e1, e2, ⟨u, hp, hb, hF⟩, hce, hcv, hcl, st⟩
  · cases hv
    obtain ⟨k1, k2, k3⟩ := vx_keep h0 e1 hS hA hf hL hF
    obtain ⟨t2, a1, b1⟩ := kk r u t T'.heap (locs ++ L) e1.symm (by rw [← e2]; exact X'.warmed.alike) hp hb k1 k2 k3 T' rfl X'
    exact ⟨t2, st t2 a1, b1⟩
  · obtain ⟨k1, k2, k3⟩ := vx_keep h0 e1 hS hAX hf hL hF
    obtain ⟨t2, a1, b1⟩ := kx E ce q u t T'.heap (locs ++ L) e1.symm (by rw [← e2]; exact X'.warmed.alike) hp hb k1 k2 k3 (by rw [e1]; exact hce) hcv hcl T' rfl X'
    exact ⟨t2, st.trans a1, b1⟩
theorem vx_calld {S SX : Type} {post : UInt64 → S → Prop} {px : SX → Prop} {B : S → State → Prop} {BX : String → SX → State → Prop} {AX : Nat → Prop} (hr : vx_Run p l e R s m args below meth c H locs cells slots mc ms (F0 m pc ls st0) rest (va_Qd post B A1 a) (vx_X px BX AX) free) (hS : va_S A0 H0 H locs) (hA : ∀ q, q < H.size → A1 q → A0 q) (hf : ∀ q, free q → A0 q) (hAX : ∀ q, q < H.size → AX q → A0 q)
    (kx : ∀ (E : String) (ce : Cell) (q9 : Addr) (u : SX) (t : State) (H1 : Heap) (locs1 : List Loc), t.heap = H1 → s.vm.Alike t.vm → px u → BX E u t → H.size ≤ H1.size → (∀ q : Nat, q < H.size → ¬ AX q → H1[q]? = H[q]?) → va_S A0 H0 H1 locs1 → H1[q9]? = some ce → ce.vm = .none → s.vm.findClass E = some ce.cls → vx_W p l e R s m args below meth c H1 locs1 (cells + mc) (slots + ms) Q (F0 m pc ls rest) q9)
    (kk : ∀ (r : UInt64) (u : S) (t : State) (H1 : Heap) (locs1 : List Loc), t.heap = H1 → s.vm.Alike t.vm → post r u → B u t → H.size ≤ H1.size → (∀ q : Nat, q < H.size → ¬ A1 q → H1[q]? = H[q]?) → va_S A0 H0 H1 locs1 → W p l e R s m args below meth c H1 locs1 (cells + mc) (slots + ms) Q (F0 m (pc + 3) ls (.double r :: rest))) : W p l e R s m args below meth c H locs cells slots Q (F0 m pc ls st0) := by
  intro T hT X
  rcases hr T hT X with ⟨v, st₀, t, T', L, h0, X', hL, e1, e2, ⟨⟨r, u, hv, hp, hb⟩, hF⟩, st⟩ | ⟨q, st₀, t, T', L, E, ce, h0, X', hL, e1, e2, ⟨u, hp, hb, hF⟩, hce, hcv, hcl, st⟩
  · cases hv
    obtain ⟨k1, k2, k3⟩ := vx_keep h0 e1 hS hA hf hL hF
    obtain ⟨t2, a1, b1⟩ := kk r u t T'.heap (locs ++ L) e1.symm (by rw [← e2]; exact X'.warmed.alike) hp hb k1 k2 k3 T' rfl X'
    exact ⟨t2, st t2 a1, b1⟩
  · obtain ⟨k1, k2, k3⟩ := vx_keep h0 e1 hS hAX hf hL hF
    obtain ⟨t2, a1, b1⟩ := kx E ce q u t T'.heap (locs ++ L) e1.symm (by rw [← e2]; exact X'.warmed.alike) hp hb k1 k2 k3 (by rw [e1]; exact hce) hcv hcl T' rfl X'
    exact ⟨t2, st.trans a1, b1⟩
theorem vx_callv {S SX : Type} {post : S → Prop} {px : SX → Prop} {B : S → State → Prop} {BX : String → SX → State → Prop} {AX : Nat → Prop} (hr : vx_Run p l e R s m args below meth c H locs cells slots mc ms (F0 m pc ls st0) rest (va_Qv post B A1 a) (vx_X px BX AX) free) (hS : va_S A0 H0 H locs) (hA : ∀ q, q < H.size → A1 q → A0 q) (hf : ∀ q, free q → A0 q) (hAX : ∀ q, q < H.size → AX q → A0 q)
    (kx : ∀ (E : String) (ce : Cell) (q9 : Addr) (u : SX) (t : State) (H1 : Heap) (locs1 : List Loc), t.heap = H1 → s.vm.Alike t.vm → px u → BX E u t → H.size ≤ H1.size → (∀ q : Nat, q < H.size → ¬ AX q → H1[q]? = H[q]?) → va_S A0 H0 H1 locs1 → H1[q9]? = some ce → ce.vm = .none → s.vm.findClass E = some ce.cls → vx_W p l e R s m args below meth c H1 locs1 (cells + mc) (slots + ms) Q (F0 m pc ls rest) q9)
    (kk : ∀ (u : S) (t : State) (H1 : Heap) (locs1 : List Loc), t.heap = H1 → s.vm.Alike t.vm → post u → B u t → H.size ≤ H1.size → (∀ q : Nat, q < H.size → ¬ A1 q → H1[q]? = H[q]?) → va_S A0 H0 H1 locs1 → W p l e R s m args below meth c H1 locs1 (cells + mc) (slots + ms) Q (F0 m (pc + 3) ls (rest))) : W p l e R s m args below meth c H locs cells slots Q (F0 m pc ls st0) := by
  intro T hT X
  rcases hr T hT X with ⟨v, st₀, t, T', L, h0, X', hL, e1, e2, ⟨⟨u, hv, hp, hb⟩, hF⟩, st⟩ | ⟨q, st₀, t, T', L, E, ce, h0, X', hL, e1, e2, ⟨u, hp, hb, hF⟩, hce, hcv, hcl, st⟩
  · cases hv
    obtain ⟨k1, k2, k3⟩ := vx_keep h0 e1 hS hA hf hL hF
    obtain ⟨t2, a1, b1⟩ := kk u t T'.heap (locs ++ L) e1.symm (by rw [← e2]; exact X'.warmed.alike) hp hb k1 k2 k3 T' rfl X'
    exact ⟨t2, st t2 a1, b1⟩
  · obtain ⟨k1, k2, k3⟩ := vx_keep h0 e1 hS hAX hf hL hF
    obtain ⟨t2, a1, b1⟩ := kx E ce q u t T'.heap (locs ++ L) e1.symm (by rw [← e2]; exact X'.warmed.alike) hp hb k1 k2 k3 (by rw [e1]; exact hce) hcv hcl T' rfl X'
    exact ⟨t2, st.trans a1, b1⟩
/-- caught by the row x of this method's table; the rows ahead don't take it -/
theorem vx_catch {own name : String} {E : String} {ce : Cell} {q : Addr} (hown : s.vm.findClass own = some m.cls) (pre : List ExceptionTableEntry) (x : ExceptionTableEntry) (suf : List ExceptionTableEntry) (hsplit : c.exceptionTable.toList = pre ++ x :: suf)
    (hpass : ∀ z ∈ pre, covers z pc = false ∨ (z.catchType ≠ 0 ∧ ∃ nm : String, (Cond.classLink own z.catchType nm).before args s = true ∧ va_Nc E nm s)) (hx : covers x pc = true) (h0 : x.catchType ≠ 0)
    (hlink : (Cond.classLink own x.catchType name).before args s = true) (hcast : (Cond.castable E name).before args s = true) (hcell : H[q]? = some ce) (hv : ce.vm = .none) (hcl : s.vm.findClass E = some ce.cls)
    (kk : W p l e R s m args below meth c H locs cells slots Q (F0 m x.handlerPc ls [.ref q])) : vx_W p l e R s m args below meth c H locs cells slots Q (F0 m pc ls rest) q := by
  intro T hT X
  have hpl : e.platform.magicAccessors = ({} : Platform).magicAccessors := by rw [X.admits.platform]
  obtain ⟨c3, c4, hc3, hc4, hasg⟩ := Cond.castable_spec hcast
  cases Option.some.inj (hc3.symm.trans hcl)
  obtain ⟨c5, hc5, hcl5⟩ := Cond.classLink_spec hown hlink e.platform hpl
  cases Option.some.inj (hc4.symm.trans hc5)
  obtain ⟨vm', X', st⟩ := X.thenCaughtThrough q (g := F0 m pc ls rest) rfl (Steps.refl _) (by rw [hT]; exact hcell) (by rw [hv]; rfl) (by obtain ⟨k9, h9, -⟩ := Vm.findClass_spec hcl; exact ⟨k9, h9⟩) pre x suf hsplit
    (fun z hz => by
      rcases hpass z hz with h | ⟨hz0, nm, hl1, hn1⟩
      · exact Or.inl h
      · obtain ⟨c6, hc6, hcl6⟩ := Cond.classLink_spec hown hl1 e.platform hpl
        obtain ⟨a8, b8, h1, h2, h3⟩ := hn1
        cases Option.some.inj (h1.symm.trans hcl)
        cases Option.some.inj (h2.symm.trans hc6)
        exact Or.inr ⟨hz0, _, hcl6, h3⟩) hx (Or.inr ⟨h0, c4, hcl5, hasg⟩)
  obtain ⟨t, a1, b1⟩ := kk (T.setVm vm') hT X'
  exact ⟨t, st.trans a1, b1⟩
end Rows
section Ends
variable {p : Program} {l : Launch} {e : Env} {R : Room} {s : State} {m : MethodId} {args : Array Value} {below : List Frame} {meth : Method} {c : Code} {H : Heap} {locs : List Loc} {cells slots : Nat} {Q : State → Prop}
variable {mc ms : Nat} {free : Addr → Prop} {A0 A1 : Nat → Prop} {H0 : Heap} {a : Array Value} {ls : Array Slot} {st0 rest : List Value}
variable {Qc : Array Value → State → Outcome → State → Prop} {XC : String → State → State → Prop}
/-- what a body that may throw owes at its end -/
def vx_MQ (below : List Frame) (Qc : Array Value → State → Outcome → State → Prop) (XC : String → State → State → Prop) (a : Array Value) (s : State) (mc ms : Nat) (free : Addr → Prop) : State → Prop := fun t =>
  ∃ o, t.status = .running ∧ Ended t below o ∧ vx_Q Qc XC mc ms free a s o t
theorem vx_ret {g : JFrame} {mc ms : Nat} (k : W p l e R s m args below meth c H locs cells slots (MQ below Qc args s mc ms free) g) : W p l e R s m args below meth c H locs cells slots (vx_MQ below Qc XC args s mc ms free) g := by
  intro T hT X
  obtain ⟨t, a1, o, b1, b2, b3, b4⟩ := k T hT X
  exact ⟨t, a1, o, b1, b2, Or.inl ⟨b3, b4⟩⟩
/-- not caught here: it goes on to the caller -/
theorem vx_widen {g : JFrame} {q : Addr} {k n : Nat} (h1 : cells ≤ k) (h2 : slots ≤ n) (kk : vx_W p l e R s m args below meth c H locs k n Q g q) : vx_W p l e R s m args below meth c H locs cells slots Q g q := fun T hT X => kk T hT (stand_widen X h1 h2)
theorem vx_out {pc : Nat} {E : String} {ce : Cell} {q : Addr} {mc ms : Nat} (hout : ∀ x ∈ c.exceptionTable.toList, covers x pc = false) (hlocks : meth.locks = false) (hcell : H[q]? = some ce) (hv : ce.vm = .none) (hcl : s.vm.findClass E = some ce.cls)
    (hx : ∀ t : State, t.heap = H → s.vm.Alike t.vm → XC E s t) (hf : ∀ z ∈ locs, free z.base) (hc : cells ≤ mc) (hs : slots ≤ ms) :
    vx_W p l e R s m args below meth c H locs cells slots (vx_MQ below Qc XC args s mc ms free) (F0 m pc ls rest) q := by
  intro T hT X
  obtain ⟨st1, hrun, hend, hW, hsm⟩ := X.leaveThrown q (g := F0 m pc ls rest) rfl rfl rfl hout hlocks
  have hcell9 : (T.setFrames (.throwing q :: below)).heap[q]? = some ce := by
    show T.heap[q]? = some ce
    rw [hT]; exact hcell
  exact ⟨_, st1, .threw q, hrun, hend, Or.inr ⟨q, rfl, E, ce, locs, hx _ hT hW.alike, hcell9, hv, hcl, hW, hsm.mono hc hs, hf⟩⟩
theorem vx_frame {U : State} {k n : Nat} (h : s.sameButNew ({ U with vm := s.vm } : State) locs k n) : s.heap.size ≤ U.heap.size ∧ ∀ q : Nat, q < s.heap.size → (∀ z ∈ locs, z.base ≠ q) → U.heap[q]? = s.heap[q]? := by
  obtain ⟨-, h2, -, -, -, h6⟩ := h
  refine ⟨h2, fun q hq hz => ?_⟩
  obtain ⟨c9, e1, e2, e3, e4⟩ := h6 q _ (Array.getElem?_eq_getElem hq)
  have hs : c9.slots = (s.heap[q]).slots := Array.ext_getElem? fun i => e4 i fun hm => hz _ hm rfl
  have h9 : c9 = s.heap[q] := by
    rw [hs] at e2
    exact e2
  have e5 : U.heap[q]? = some c9 := e1
  rw [e5, h9, Array.getElem?_eq_getElem hq]
/-- the words of a throw but the four that speak of the heap -/
def vx_no (w : Cond) : Bool := decide (w ≠ .isRef (.static Bundle.tN "UNASSIGNED_STACK" Bundle.steD)) && decide (w ≠ .isRef (.static Bundle.tN "SUPPRESSED_SENTINEL" Bundle.listD)) && decide (w ≠ .laysStatic Bundle.tN "UNASSIGNED_STACK" Bundle.steD) && decide (w ≠ .laysStatic Bundle.tN "SUPPRESSED_SENTINEL" Bundle.listD)
def vx_at0 (own : String) (ic : Nat) (X : String) (names : List String) : List Cond := (Bundle.ownAtoms0 own ic X names).filter vx_no
def vx_atS (own : String) (ic : Nat) (X : String) (names : List String) : List Cond := (Bundle.ownAtoms own ic X names).filter vx_no
/-- a word that the tables alone decide, or a good one -/
def vx_ot (w : Cond) : Bool := w.onTables || goodWord w
theorem vx_ot_at {args a' : Array Value} {s U : State} {w : Cond} (hW : s.WarmedH U.vm) (hvm : s.vm = U.vm) (hg : vx_ot w = true) (h : w.before args s = true) : w.before a' U = true := by
  simp only [vx_ot, Bool.or_eq_true] at hg
  rcases hg with hg | hg
  · exact va_tabs hg hvm h
  · exact word_at hW (good_of_word hg) h
/-- a list's words: the good ones out of the method's own list, the others by premises of their own -/
theorem vx_hat {args : Array Value} {s : State} {L B : List Cond} (h1 : ∀ w ∈ L.filter goodWord, w.before args s = true) (h2 : ∀ w ∈ L.filter (fun w => !goodWord w), w ∈ B) (h3 : ∀ w ∈ B, w.before args s = true) : ∀ w ∈ L, w.before args s = true := by
  intro w hw
  by_cases g : goodWord w = true
  · exact h1 w (List.mem_filter.mpr ⟨hw, g⟩)
  · refine h3 w (h2 w (List.mem_filter.mpr ⟨hw, ?_⟩))
    show (!goodWord w) = true
    cases hgw : goodWord w
    · rfl
    · exact absurd hgw g
theorem vx_c {args : Array Value} {s : State} {w : Cond} {B : List Cond} (h : w.before args s = true) (t : ∀ w ∈ B, w.before args s = true) : ∀ w' ∈ w :: B, w'.before args s = true := fun w' h' => (List.mem_cons.mp h').elim (fun e => by rw [e]; exact h) (t w')
theorem vx_n {args : Array Value} {s : State} : ∀ w ∈ ([] : List Cond), w.before args s = true := fun _ h => nomatch h
theorem vx_own {args : Array Value} {s : State} {L : List Cond} (h1 : ∀ w ∈ L.filter vx_no, w.before args s = true)
    (hU : (Cond.isRef (.static Bundle.tN "UNASSIGNED_STACK" Bundle.steD)).before args s = true) (hN : (Cond.isRef (.static Bundle.tN "SUPPRESSED_SENTINEL" Bundle.listD)).before args s = true)
    (lU : (Cond.laysStatic Bundle.tN "UNASSIGNED_STACK" Bundle.steD).before args s = true) (lN : (Cond.laysStatic Bundle.tN "SUPPRESSED_SENTINEL" Bundle.listD).before args s = true) : ∀ w ∈ L, w.before args s = true := by
  intro w hw
  by_cases e1 : w = .isRef (.static Bundle.tN "UNASSIGNED_STACK" Bundle.steD)
  · rw [e1]; exact hU
  · by_cases e2 : w = .isRef (.static Bundle.tN "SUPPRESSED_SENTINEL" Bundle.listD)
    · rw [e2]; exact hN
    · by_cases e3 : w = .laysStatic Bundle.tN "UNASSIGNED_STACK" Bundle.steD
      · rw [e3]; exact lU
      · by_cases e4 : w = .laysStatic Bundle.tN "SUPPRESSED_SENTINEL" Bundle.listD
        · rw [e4]; exact lN
        · exact h1 w (List.mem_filter.mpr ⟨hw, by unfold vx_no; rw [decide_eq_true e1, decide_eq_true e2, decide_eq_true e3, decide_eq_true e4]; rfl⟩)
/-- where a static field lies, its class's statics cell in H -/
def vx_L (C n d : String) (A : Nat → Prop) (U : State) (H : Heap) : Prop := ∃ (c : ClassId) (k : Class) (i : Nat) (f : Field) (a : Nat) (cell : Cell), U.vm.findClass C = some c ∧ U.fieldFound? C n d = some (c, k, i, f) ∧ f.isStatic = true ∧ k.statics = some a ∧ H[a]? = some cell ∧ cell.vm.isStatics = true ∧ cell.cls = c ∧ f.slot < cell.slots.size ∧ k.staticTypes[f.slot]? = some f.type ∧ ¬ A a
theorem vx_L.moved {C n d : String} {A : Nat → Prop} {u U : State} {H : Heap} (hvm : u.vm.Alike U.vm) (h : vx_L C n d A u H) : vx_L C n d A U H := by
  obtain ⟨c, k, i, f, a, cell, h1, h2, h3, h4, h5, h6, h7, h8, h9, h10⟩ := h
  obtain ⟨k', hi', he⟩ := State.fieldFound?_setVm hvm h2
  exact ⟨c, k', i, f, a, cell, by rw [hvm.findClass]; exact h1, hi', h3, by rw [he]; exact h4, h5, h6, h7, h8, by rw [he]; exact h9, h10⟩
theorem vx_L.kept {C n d : String} {A : Nat → Prop} {U : State} {H H1 : Heap} (h : vx_L C n d A U H) (hq : ∀ a : Nat, a < H.size → ¬ A a → H1[a]? = H[a]?) : vx_L C n d A U H1 := by
  obtain ⟨c, k, i, f, a, cell, h1, h2, h3, h4, h5, h6, h7, h8, h9, h10⟩ := h
  exact ⟨c, k, i, f, a, cell, h1, h2, h3, h4, by rw [hq a (Array.getElem?_eq_some_iff.mp h5).1 h10]; exact h5, h6, h7, h8, h9, h10⟩
theorem vx_L.narrow {C n d : String} {A B : Nat → Prop} {U : State} {H : Heap} (h : vx_L C n d A U H) (hAB : ∀ q, B q → A q) : vx_L C n d B U H := by
  obtain ⟨c, k, i, f, a, cell, h1, h2, h3, h4, h5, h6, h7, h8, h9, h10⟩ := h
  exact ⟨c, k, i, f, a, cell, h1, h2, h3, h4, h5, h6, h7, h8, h9, fun z => h10 (hAB _ z)⟩
theorem vx_L.word {C n d : String} {A : Nat → Prop} {s : State} {args : Array Value} (h : vx_L C n d A s s.heap) : (Cond.laysStatic C n d).before args s = true := by
  obtain ⟨c, k, i, f, a, cell, h1, h2, h3, h4, h5, h6, h7, h8, h9, -⟩ := h
  show (Cond.laysStatic C n d).holds args s none s [] = true
  exact Cond.laysStatic_of h1 h2 h3 h4 h5 h6 h7 h8 h9
/-- .. and what it holds: null or some reference -/
def vx_Zq (C n d : String) (A : Nat → Prop) (U : State) (H : Heap) : Prop := va_Zq C n d A U H ∧ vx_L C n d A U H
theorem vx_Zq.moved {C n d : String} {A : Nat → Prop} {u U : State} {H : Heap} (hvm : u.vm.Alike U.vm) (h : vx_Zq C n d A u H) : vx_Zq C n d A U H := ⟨va_Zq.moved hvm h.1, vx_L.moved hvm h.2⟩
theorem vx_Zq.kept {C n d : String} {A : Nat → Prop} {U : State} {H H1 : Heap} (h : vx_Zq C n d A U H) (hq : ∀ a : Nat, a < H.size → ¬ A a → H1[a]? = H[a]?) : vx_Zq C n d A U H1 := ⟨va_Zq.kept h.1 hq, vx_L.kept h.2 hq⟩
theorem vx_Zq.narrow {C n d : String} {A B : Nat → Prop} {U : State} {H : Heap} (h : vx_Zq C n d A U H) (hAB : ∀ q, B q → A q) : vx_Zq C n d B U H := ⟨va_Zq.narrow h.1 hAB, vx_L.narrow h.2 hAB⟩
theorem vx_Zqof {args : Array Value} {s : State} {C n d : String} {A : Nat → Prop} (hl : (Cond.laysStatic C n d).before args s = true) (hini : (Cond.initialized C).before args s = true) (h : (Cond.isRef (.static C n d)).before args s = true) (hA : ∀ a : Nat, a < s.heap.size → ¬ A a) : vx_Zq C n d A s s.heap := by
  refine ⟨va_Zqof hl hini h hA, ?_⟩
  obtain ⟨c, k, i, f, a, cell, h1, h2, h3, h4, h5, h6, h7, h8, h9⟩ := Cond.laysStatic_spec hl
  exact ⟨c, k, i, f, a, cell, h1, h2, h3, h4, h5, h6, h7, h8, h9, hA a (Array.getElem?_eq_some_iff.mp h5).1⟩
theorem vx_isRef {C n d : String} {v : Value} {A : Nat → Prop} {s : State} {args : Array Value} (h : va_Z C n d v A s s.heap) (hv : v.isRef = true) : (Cond.isRef (.static C n d)).before args s = true := by
  obtain ⟨cf, kf, fi, f, a, cell, h1, h2, h3, h4, h5, h6, h7, -⟩ := h
  have he : (Term.static C n d).eval args s none [] s = some v := by
    simp [Term.eval, State.fieldNamed?, h1, h2, h4, h5, h6, h7]
  simp only [Cond.before, Cond.holds, Cond.value, he]
  cases v <;> simp_all [Value.isRef]
theorem vx_isRefq {C n d : String} {A : Nat → Prop} {s : State} {args : Array Value} (h : va_Zq C n d A s s.heap) : (Cond.isRef (.static C n d)).before args s = true := by
  rcases h with h | ⟨t, h⟩
  · exact vx_isRef h rfl
  · exact vx_isRef h rfl
/-- the same frame, seen from here: as if the method were called anew in this heap -/
theorem vx_rebase {T : State} (X : Stand p l e R s m args below meth c T locs cells slots) {R' : Room} (hf : R'.frames ≤ R.frames) (hl : R'.locals ≤ R.locals) (hc : cells + R'.cells ≤ R.cells) (hs : slots + R'.slots ≤ R.slots) :
    Stand p l e R' ((T.setVm s.vm).setFrames (.invoking m args :: below)) m args below meth c T [] 0 0 := by
  have htop : (T.setVm s.vm).topJava?.isSome := X.here.top
  have hF : ((T.setVm s.vm).setFrames (.invoking m args :: below)).frames = .invoking m args :: below := State.frames_setFrames _ (State.cur_lt_of_top htop)
  obtain ⟨g₀, hg0⟩ := Option.isSome_iff_exists.mp htop
  obtain ⟨r, hr⟩ := State.topJava?_eq_some.mp hg0
  have hl9 : e.platform.stackLimits (T.setVm s.vm).me = e.platform.stackLimits s.me := X.limits
  have hb9 : (T.setVm s.vm).me.stackBytes = s.me.stackBytes := X.bytes
  refine ⟨X.admits, X.cas, X.clock, hF, ?_, X.hears, X.method, X.code, X.here, X.tail, X.warmed, ?_, ?_, ?_⟩
  · have h := X.room
    have hU : ((T.setVm s.vm).setFrames (.invoking m args :: below)).localsInUse = s.localsInUse := by
      rw [State.localsInUse_invoking hF (meth := meth) (c := c) X.method X.code, State.localsInUse_invoking X.frames X.method X.code]
    simp only [State.hasRoom, Bool.and_eq_true, decide_eq_true_eq] at h ⊢
    obtain ⟨⟨⟨⟨h1, h2, h3, h4, h5, h6⟩, h7⟩, h8⟩, h9⟩ := h
    rw [X.frames, List.length_cons] at h2 h3
    have q1 := X.heapSize
    have q2 := X.used
    simp only [hF, hU, List.length_cons, State.stackLimits_setFrames, State.stackBytes_setFrames, hl9, hb9]
    refine ⟨⟨⟨⟨by omega, by omega, by omega, by omega, by omega, h6⟩, ?_⟩, ?_⟩, X.book⟩
    · show T.heap.size + R'.cells ≤ e.platform.maxCells
      omega
    · show T.slotsUsed + R'.slots ≤ e.platform.maxSlots
      omega
  · rw [State.stackLimits_setFrames]; rfl
  · rw [State.stackBytes_setFrames]; rfl
  · refine ⟨?_, Nat.le_refl _, Nat.le_refl _, ?_, ?_, fun a c9 h9 => ⟨c9, h9, rfl, rfl, fun _ _ => rfl⟩⟩
    · obtain ⟨t, ht, -⟩ := State.frames_cons hr
      show T.setVm s.vm = { ((T.setVm s.vm).setFrames (.invoking m args :: below)).setFrames (T.setVm s.vm).frames with heap := T.heap, slotsUsed := T.slotsUsed }
      rw [State.setFrames_setFrames, State.setFrames_self ht]
      rfl
    · show T.slotsUsed = T.slotsUsed + ((T.heap.toList.drop T.heap.size).map (·.slots.size)).sum
      rw [List.drop_eq_nil_of_le (Nat.le_of_eq Array.length_toList)]
      rfl
    · show ((T.heap.toList.drop T.heap.size).map (·.slots.size)).sum ≤ 0
      rw [List.drop_eq_nil_of_le (Nat.le_of_eq Array.length_toList)]
      exact Nat.le_refl _
/-- 'throw new E()': new; dup; invokespecial; athrow -/
theorem vx_throw0 {cc : ByteArray} {pc : Nat} (hexec : p.tables.exec = Jvm.exec) (hb : c.code = cc) (hl : l.stackTraces = false) {own cls : String} {names : List String} {ik ic mc ms : Nat} {A : Nat → Prop}
    (hown : s.vm.findClass own = some m.cls) (hcls : Bundle.fit cls = true) (hnames : ∀ n ∈ names, Bundle.fit n = true)
    (hk : (Cond.classLink own ik cls).before args s = true) (hini : (Cond.initialized cls).before args s = true) (hat : ∀ w ∈ vx_at0 own ic cls names, w.before args s = true)
    (hgood : ∀ w ∈ Cond.classLink own ik cls :: Cond.initialized cls :: vx_at0 own ic cls names, vx_ot w = true)
    (hU : vx_Zq Bundle.tN "UNASSIGNED_STACK" Bundle.steD A s s.heap) (hN : vx_Zq Bundle.tN "SUPPRESSED_SENTINEL" Bundle.listD A s s.heap) (hS : va_S A s.heap H locs) (hsize : ls.size = c.maxLocals)
    (d0 : decode cc pc = .ok (.new ik, 3)) (d3 : decode cc (pc + 3) = .ok (.dup, 1)) (d4 : decode cc (pc + 4) = .ok (.invokespecial ic, 3)) (d7 : decode cc (pc + 7) = .ok (.athrow, 1))
    (hout : ∀ x ∈ c.exceptionTable.toList, covers x (pc + 7) = false)
    (hRframes : names.length + 3 < R.frames) (hRlocals : (rest.map fun v => v.category).sum + (13 * (names.length + 1) + 42) ≤ R.locals) (hRcells : cells + 1 ≤ R.cells) (hRslots : slots + 6 ≤ R.slots) (hlocks : meth.locks = false)
    (hx : ∀ t : State, s.vm.Alike t.vm → H.size ≤ t.heap.size → (∀ q : Nat, q < H.size → t.heap[q]? = H[q]?) → XC cls s t)
    (hf : ∀ z ∈ locs, free z.base) (hc : cells + 1 ≤ mc) (hs : slots + 6 ≤ ms) :
    W p l e R s m args below meth c H locs cells slots (vx_MQ below Qc XC args s mc ms free) (F0 m pc ls rest) := by
  intro T hT X
  have htr : e.platform.stackTraces = false := (show e.platform.stackTraces = l.stackTraces by rw [X.admits.platform]).trans hl
  have Y := vx_rebase X (R' := { frames := R.frames, locals := R.locals, cells := 1, slots := 6 }) (Nat.le_refl _) (Nat.le_refl _) hRcells hRslots
  obtain ⟨s', hA⟩ : ∃ z, z = (T.setVm s.vm).setFrames (.invoking m args :: below) := ⟨_, rfl⟩
  rw [← hA] at Y
  have hvm : s'.vm = s.vm := by rw [hA]; rfl
  have hhp : s'.heap = H := by rw [hA]; exact hT
  have hW0 : s.WarmedH s'.vm := by rw [hvm]; exact State.WarmedH.refl s
  have hat' : ∀ w ∈ vx_at0 own ic cls names, w.before args s' = true := fun w hw => vx_ot_at hW0 hvm.symm (hgood w (List.mem_cons_of_mem _ (List.mem_cons_of_mem _ hw))) (hat w hw)
  have hk' : (Cond.classLink own ik cls).before args s' = true := vx_ot_at hW0 hvm.symm (hgood _ List.mem_cons_self) hk
  have hini' : (Cond.initialized cls).before args s' = true := vx_ot_at hW0 hvm.symm (hgood _ (List.mem_cons_of_mem _ List.mem_cons_self)) hini
  have hU' : vx_Zq Bundle.tN "UNASSIGNED_STACK" Bundle.steD A s' s'.heap := by rw [hhp]; exact vx_Zq.moved hW0.alike (hU.kept hS.2.1)
  have hN' : vx_Zq Bundle.tN "SUPPRESSED_SENTINEL" Bundle.listD A s' s'.heap := by rw [hhp]; exact vx_Zq.moved hW0.alike (hN.kept hS.2.1)
  have h : ∀ w ∈ Bundle.ownAtoms0 own ic cls names, w.before args s' = true := vx_own hat' (vx_isRefq hU'.1) (vx_isRefq hN'.1) hU'.2.word hN'.2.word
  have hown' : s'.vm.findClass own = some m.cls := by rw [hvm]; exact hown
  have hins : (Cond.instantiable cls 6).before args s' = true := h _ (by simp [Bundle.ownAtoms0])
  obtain ⟨vm₁, cX, kX, hfX, hkX, -, -, X₁, st1⟩ := Y.newCold hexec (own := own) (C := cls) (index := ik) (n := 6) hown' hk' hins hini'
    (g := F0 m pc ls rest) rfl (by rw [hb]; exact d0) (Nat.le_refl _) (Nat.le_refl _)
  generalize hT1 : (T.setVm vm₁).pushCell { cls := cX, slots := kX.instanceTypes.map defaultValue, vm := .none } = T1 at X₁ st1
  have hcat : (Value.ref T.heap.size).category = 1 := rfl
  have hcellA : T1.heap[T.heap.size]? = some (freshCell cX kX) := by rw [← hT1]; exact State.heap_pushCell_size _ _
  have d3' : decode c.code (pc + 3) = .ok (.dup, 1) := by rw [hb]; exact d3
  obtain ⟨U, hsteps, hrun, hend, hW, hsame, ce, hce, hO⟩ := X₁.ctorThrow0 hexec htr (own := own) (cls := cls) (names := names) (ic := ic) hown' hcls hnames h (fun x hx => nomatch hx) hfX hkX hcellA (by rw [hhp, hT]; exact Nat.le_refl _)
    (g := { method := m, pc := pc + 4, locals := ls, stack := .ref T.heap.size :: .ref T.heap.size :: rest, locked := none }) rfl hsize rfl rfl (rest := rest) rfl
    (by rw [hb]; exact d4) (by rw [hb]; exact d7) hout hRframes (by simp only [List.map_cons, List.sum_cons, hcat]; omega) hlocks
  obtain ⟨f1, f2⟩ := vx_frame hsame
  rw [hhp] at f1 f2
  have hWs : s.WarmedH U.vm := State.WarmedH.trans hW0 hW
  have hcl : s.vm.findClass cls = some ce.cls := by
    have h9 := hO.cls
    rw [hvm] at h9
    exact h9
  have hall : s.sameButNew ({ U with vm := s.vm } : State) locs mc ms := by
    subst hA
    obtain ⟨e1, e2⟩ := hsame
    rw [State.setFrames_setFrames] at e1
    have h2 : (T.setVm s.vm).sameButNew ({ U with vm := s.vm } : State) [] (0 + 1) (0 + 6) := ⟨e1, e2⟩
    have h3 := X.same.trans h2
    rw [List.append_nil] at h3
    exact h3.mono hc hs
  refine ⟨U, ?_, .threw T.heap.size, hrun, hend, Or.inr ⟨T.heap.size, rfl, cls, ce, locs, hx U hWs.alike f1 (fun q hq => f2 q hq (fun z hz => nomatch hz)), hce, hO.vm, hcl, hWs, hall, hf⟩⟩
  refine st1 _ ?_
  show Steps p.tables e below (T1.setTop { method := m, pc := pc + 3, locals := ls, stack := .ref T.heap.size :: rest, locked := none }) _
  jvm_step X₁.here [X₁.here.top, hexec, d3', Value.category]
  exact hsteps
/-- 'throw new E("text")': new; dup; ldc; invokespecial; athrow -/
theorem vx_throwS {cc : ByteArray} {pc : Nat} (hexec : p.tables.exec = Jvm.exec) (hb : c.code = cc) (hl : l.stackTraces = false) {own cls text : String} {names : List String} {ik is ic mc ms sa : Nat} {A : Nat → Prop}
    (hown : s.vm.findClass own = some m.cls) (hcls : Bundle.fit cls = true) (hnames : ∀ n ∈ names, Bundle.fit n = true)
    (hk : (Cond.classLink own ik cls).before args s = true) (hini : (Cond.initialized cls).before args s = true) (hstr : vk_R own is text sa s) (hat : ∀ w ∈ vx_atS own ic cls names, w.before args s = true)
    (hgood : ∀ w ∈ Cond.classLink own ik cls :: Cond.initialized cls :: vx_atS own ic cls names, vx_ot w = true)
    (hU : vx_Zq Bundle.tN "UNASSIGNED_STACK" Bundle.steD A s s.heap) (hN : vx_Zq Bundle.tN "SUPPRESSED_SENTINEL" Bundle.listD A s s.heap) (hS : va_S A s.heap H locs) (hsize : ls.size = c.maxLocals)
    (d0 : decode cc pc = .ok (.new ik, 3)) (d3 : decode cc (pc + 3) = .ok (.dup, 1)) (d4 : decode cc (pc + 4) = .ok (.ldc is, 2)) (d6 : decode cc (pc + 6) = .ok (.invokespecial ic, 3)) (d9 : decode cc (pc + 9) = .ok (.athrow, 1))
    (hout : ∀ x ∈ c.exceptionTable.toList, covers x (pc + 9) = false)
    (hRframes : names.length + 3 < R.frames) (hRlocals : (rest.map fun v => v.category).sum + (13 * (names.length + 1) + 43) ≤ R.locals) (hRcells : cells + 1 ≤ R.cells) (hRslots : slots + 6 ≤ R.slots) (hlocks : meth.locks = false)
    (hx : ∀ t : State, s.vm.Alike t.vm → H.size ≤ t.heap.size → (∀ q : Nat, q < H.size → t.heap[q]? = H[q]?) → XC cls s t)
    (hf : ∀ z ∈ locs, free z.base) (hc : cells + 1 ≤ mc) (hs : slots + 6 ≤ ms) :
    W p l e R s m args below meth c H locs cells slots (vx_MQ below Qc XC args s mc ms free) (F0 m pc ls rest) := by
  intro T hT X
  have htr : e.platform.stackTraces = false := (show e.platform.stackTraces = l.stackTraces by rw [X.admits.platform]).trans hl
  have Y := vx_rebase X (R' := { frames := R.frames, locals := R.locals, cells := 1, slots := 6 }) (Nat.le_refl _) (Nat.le_refl _) hRcells hRslots
  obtain ⟨s', hA⟩ : ∃ z, z = (T.setVm s.vm).setFrames (.invoking m args :: below) := ⟨_, rfl⟩
  rw [← hA] at Y
  have hvm : s'.vm = s.vm := by rw [hA]; rfl
  have hhp : s'.heap = H := by rw [hA]; exact hT
  have hW0 : s.WarmedH s'.vm := by rw [hvm]; exact State.WarmedH.refl s
  have hat' : ∀ w ∈ vx_atS own ic cls names, w.before args s' = true := fun w hw => vx_ot_at hW0 hvm.symm (hgood w (List.mem_cons_of_mem _ (List.mem_cons_of_mem _ hw))) (hat w hw)
  have hk' : (Cond.classLink own ik cls).before args s' = true := vx_ot_at hW0 hvm.symm (hgood _ List.mem_cons_self) hk
  have hini' : (Cond.initialized cls).before args s' = true := vx_ot_at hW0 hvm.symm (hgood _ (List.mem_cons_of_mem _ List.mem_cons_self)) hini
  have hU' : vx_Zq Bundle.tN "UNASSIGNED_STACK" Bundle.steD A s' s'.heap := by rw [hhp]; exact vx_Zq.moved hW0.alike (hU.kept hS.2.1)
  have hN' : vx_Zq Bundle.tN "SUPPRESSED_SENTINEL" Bundle.listD A s' s'.heap := by rw [hhp]; exact vx_Zq.moved hW0.alike (hN.kept hS.2.1)
  have h : ∀ w ∈ Bundle.ownAtoms own ic cls names, w.before args s' = true := vx_own hat' (vx_isRefq hU'.1) (vx_isRefq hN'.1) hU'.2.word hN'.2.word
  have hown' : s'.vm.findClass own = some m.cls := by rw [hvm]; exact hown
  have hins : (Cond.instantiable cls 6).before args s' = true := h _ (by simp [Bundle.ownAtoms])
  obtain ⟨vm₁, cX, kX, hfX, hkX, -, -, X₁, st1⟩ := Y.newCold hexec (own := own) (C := cls) (index := ik) (n := 6) hown' hk' hins hini'
    (g := F0 m pc ls rest) rfl (by rw [hb]; exact d0) (Nat.le_refl _) (Nat.le_refl _)
  generalize hT1 : (T.setVm vm₁).pushCell { cls := cX, slots := kX.instanceTypes.map defaultValue, vm := .none } = T1 at X₁ st1
  have hcat : (Value.ref T.heap.size).category = 1 := rfl
  have hcellA : T1.heap[T.heap.size]? = some (freshCell cX kX) := by rw [← hT1]; exact State.heap_pushCell_size _ _
  have d3' : decode c.code (pc + 3) = .ok (.dup, 1) := by rw [hb]; exact d3
  have d4' : decode c.code (pc + 4) = .ok (.ldc is, 2) := by rw [hb]; exact d4
  have hstr' : vk_R own is text sa s' := vk_R.warm hW0 hstr
  obtain ⟨U, hsteps, hrun, hend, hW, hsame, ce, hce, hO⟩ := X₁.ctorThrowS hexec htr (own := own) (cls := cls) (names := names) (ic := ic) hown' hcls hnames h (fun x hx => nomatch hx) hfX hkX hcellA (by rw [hhp, hT]; exact Nat.le_refl _) (msg := .ref sa) rfl
    (g := { method := m, pc := pc + 6, locals := ls, stack := .ref sa :: .ref T.heap.size :: .ref T.heap.size :: rest, locked := none }) rfl hsize rfl rfl (rest := rest) rfl
    (by rw [hb]; exact d6) (by rw [hb]; exact d9) hout hRframes (by simp only [List.map_cons, List.sum_cons, hcat]; omega) hlocks
  obtain ⟨f1, f2⟩ := vx_frame hsame
  rw [hhp] at f1 f2
  have hWs : s.WarmedH U.vm := State.WarmedH.trans hW0 hW
  have hcl : s.vm.findClass cls = some ce.cls := by
    have h9 := hO.cls
    rw [hvm] at h9
    exact h9
  have hall : s.sameButNew ({ U with vm := s.vm } : State) locs mc ms := by
    subst hA
    obtain ⟨e1, e2⟩ := hsame
    rw [State.setFrames_setFrames] at e1
    have h2 : (T.setVm s.vm).sameButNew ({ U with vm := s.vm } : State) [] (0 + 1) (0 + 6) := ⟨e1, e2⟩
    have h3 := X.same.trans h2
    rw [List.append_nil] at h3
    exact h3.mono hc hs
  refine ⟨U, ?_, .threw T.heap.size, hrun, hend, Or.inr ⟨T.heap.size, rfl, cls, ce, locs, hx U hWs.alike f1 (fun q hq => f2 q hq (fun z hz => nomatch hz)), hce, hO.vm, hcl, hWs, hall, hf⟩⟩
  refine st1 _ ?_
  show Steps p.tables e below (T1.setTop { method := m, pc := pc + 3, locals := ls, stack := .ref T.heap.size :: rest, locked := none }) _
  jvm_step X₁.here [X₁.here.top, hexec, d3', Value.category]
  exact X₁.ldcString hexec (own := own) (text := text) (index := is) (a := sa) hown' hstr'.1 hstr'.2
    (g := { method := m, pc := pc + 4, locals := ls, stack := .ref T.heap.size :: .ref T.heap.size :: rest, locked := none }) rfl d4' _ hsteps
/-- 'throw new E("text")', the text by a wide index -/
theorem vx_throwSW {cc : ByteArray} {pc : Nat} (hexec : p.tables.exec = Jvm.exec) (hb : c.code = cc) (hl : l.stackTraces = false) {own cls text : String} {names : List String} {ik is ic mc ms sa : Nat} {A : Nat → Prop}
    (hown : s.vm.findClass own = some m.cls) (hcls : Bundle.fit cls = true) (hnames : ∀ n ∈ names, Bundle.fit n = true)
    (hk : (Cond.classLink own ik cls).before args s = true) (hini : (Cond.initialized cls).before args s = true) (hstr : vk_R own is text sa s) (hat : ∀ w ∈ vx_atS own ic cls names, w.before args s = true)
    (hgood : ∀ w ∈ Cond.classLink own ik cls :: Cond.initialized cls :: vx_atS own ic cls names, vx_ot w = true)
    (hU : vx_Zq Bundle.tN "UNASSIGNED_STACK" Bundle.steD A s s.heap) (hN : vx_Zq Bundle.tN "SUPPRESSED_SENTINEL" Bundle.listD A s s.heap) (hS : va_S A s.heap H locs) (hsize : ls.size = c.maxLocals)
    (d0 : decode cc pc = .ok (.new ik, 3)) (d3 : decode cc (pc + 3) = .ok (.dup, 1)) (d4 : decode cc (pc + 4) = .ok (.ldc_w is, 3)) (d7 : decode cc (pc + 7) = .ok (.invokespecial ic, 3)) (d10 : decode cc (pc + 10) = .ok (.athrow, 1))
    (hout : ∀ x ∈ c.exceptionTable.toList, covers x (pc + 10) = false)
    (hRframes : names.length + 3 < R.frames) (hRlocals : (rest.map fun v => v.category).sum + (13 * (names.length + 1) + 43) ≤ R.locals) (hRcells : cells + 1 ≤ R.cells) (hRslots : slots + 6 ≤ R.slots) (hlocks : meth.locks = false)
    (hx : ∀ t : State, s.vm.Alike t.vm → H.size ≤ t.heap.size → (∀ q : Nat, q < H.size → t.heap[q]? = H[q]?) → XC cls s t)
    (hf : ∀ z ∈ locs, free z.base) (hc : cells + 1 ≤ mc) (hs : slots + 6 ≤ ms) :
    W p l e R s m args below meth c H locs cells slots (vx_MQ below Qc XC args s mc ms free) (F0 m pc ls rest) := by
  intro T hT X
  have htr : e.platform.stackTraces = false := (show e.platform.stackTraces = l.stackTraces by rw [X.admits.platform]).trans hl
  have Y := vx_rebase X (R' := { frames := R.frames, locals := R.locals, cells := 1, slots := 6 }) (Nat.le_refl _) (Nat.le_refl _) hRcells hRslots
  obtain ⟨s', hA⟩ : ∃ z, z = (T.setVm s.vm).setFrames (.invoking m args :: below) := ⟨_, rfl⟩
  rw [← hA] at Y
  have hvm : s'.vm = s.vm := by rw [hA]; rfl
  have hhp : s'.heap = H := by rw [hA]; exact hT
  have hW0 : s.WarmedH s'.vm := by rw [hvm]; exact State.WarmedH.refl s
  have hat' : ∀ w ∈ vx_atS own ic cls names, w.before args s' = true := fun w hw => vx_ot_at hW0 hvm.symm (hgood w (List.mem_cons_of_mem _ (List.mem_cons_of_mem _ hw))) (hat w hw)
  have hk' : (Cond.classLink own ik cls).before args s' = true := vx_ot_at hW0 hvm.symm (hgood _ List.mem_cons_self) hk
  have hini' : (Cond.initialized cls).before args s' = true := vx_ot_at hW0 hvm.symm (hgood _ (List.mem_cons_of_mem _ List.mem_cons_self)) hini
  have hU' : vx_Zq Bundle.tN "UNASSIGNED_STACK" Bundle.steD A s' s'.heap := by rw [hhp]; exact vx_Zq.moved hW0.alike (hU.kept hS.2.1)
  have hN' : vx_Zq Bundle.tN "SUPPRESSED_SENTINEL" Bundle.listD A s' s'.heap := by rw [hhp]; exact vx_Zq.moved hW0.alike (hN.kept hS.2.1)
  have h : ∀ w ∈ Bundle.ownAtoms own ic cls names, w.before args s' = true := vx_own hat' (vx_isRefq hU'.1) (vx_isRefq hN'.1) hU'.2.word hN'.2.word
  have hown' : s'.vm.findClass own = some m.cls := by rw [hvm]; exact hown
  have hins : (Cond.instantiable cls 6).before args s' = true := h _ (by simp [Bundle.ownAtoms])
  obtain ⟨vm₁, cX, kX, hfX, hkX, -, -, X₁, st1⟩ := Y.newCold hexec (own := own) (C := cls) (index := ik) (n := 6) hown' hk' hins hini'
    (g := F0 m pc ls rest) rfl (by rw [hb]; exact d0) (Nat.le_refl _) (Nat.le_refl _)
  generalize hT1 : (T.setVm vm₁).pushCell { cls := cX, slots := kX.instanceTypes.map defaultValue, vm := .none } = T1 at X₁ st1
  have hcat : (Value.ref T.heap.size).category = 1 := rfl
  have hcellA : T1.heap[T.heap.size]? = some (freshCell cX kX) := by rw [← hT1]; exact State.heap_pushCell_size _ _
  have d3' : decode c.code (pc + 3) = .ok (.dup, 1) := by rw [hb]; exact d3
  have d4' : decode c.code (pc + 4) = .ok (.ldc_w is, 3) := by rw [hb]; exact d4
  have hstr' : vk_R own is text sa s' := vk_R.warm hW0 hstr
  obtain ⟨U, hsteps, hrun, hend, hW, hsame, ce, hce, hO⟩ := X₁.ctorThrowS hexec htr (own := own) (cls := cls) (names := names) (ic := ic) hown' hcls hnames h (fun x hx => nomatch hx) hfX hkX hcellA (by rw [hhp, hT]; exact Nat.le_refl _) (msg := .ref sa) rfl
    (g := { method := m, pc := pc + 7, locals := ls, stack := .ref sa :: .ref T.heap.size :: .ref T.heap.size :: rest, locked := none }) rfl hsize rfl rfl (rest := rest) rfl
    (by rw [hb]; exact d7) (by rw [hb]; exact d10) hout hRframes (by simp only [List.map_cons, List.sum_cons, hcat]; omega) hlocks
  obtain ⟨f1, f2⟩ := vx_frame hsame
  rw [hhp] at f1 f2
  have hWs : s.WarmedH U.vm := State.WarmedH.trans hW0 hW
  have hcl : s.vm.findClass cls = some ce.cls := by
    have h9 := hO.cls
    rw [hvm] at h9
    exact h9
  have hall : s.sameButNew ({ U with vm := s.vm } : State) locs mc ms := by
    subst hA
    obtain ⟨e1, e2⟩ := hsame
    rw [State.setFrames_setFrames] at e1
    have h2 : (T.setVm s.vm).sameButNew ({ U with vm := s.vm } : State) [] (0 + 1) (0 + 6) := ⟨e1, e2⟩
    have h3 := X.same.trans h2
    rw [List.append_nil] at h3
    exact h3.mono hc hs
  refine ⟨U, ?_, .threw T.heap.size, hrun, hend, Or.inr ⟨T.heap.size, rfl, cls, ce, locs, hx U hWs.alike f1 (fun q hq => f2 q hq (fun z hz => nomatch hz)), hce, hO.vm, hcl, hWs, hall, hf⟩⟩
  refine st1 _ ?_
  show Steps p.tables e below (T1.setTop { method := m, pc := pc + 3, locals := ls, stack := .ref T.heap.size :: rest, locked := none }) _
  jvm_step X₁.here [X₁.here.top, hexec, d3', Value.category]
  exact X₁.ldcStringW hexec (own := own) (text := text) (index := is) (a := sa) hown' hstr'.1 hstr'.2
    (g := { method := m, pc := pc + 4, locals := ls, stack := .ref T.heap.size :: .ref T.heap.size :: rest, locked := none }) rfl d4' _ hsteps
end Ends
section Bodies
variable {l : Launch}
theorem vx_ofW {y : MethodName} {ws ws' : List Cond} {rm : Room} {Pc : Array Value → State → Prop} {Qc : Array Value → State → Outcome → State → Prop} {XC : String → State → State → Prop} {mc ms : Nat} {free : Addr → Prop} {cc : ByteArray} {maxL : Nat} {ret : Option FieldType}
    (hy : plainName y.cls = true) (hw : ws = Cond.code y cc maxL ret :: ws')
    (body : ∀ p e s m args below meth c s₁, BodyLoose p l y (headSpec ws rm) cc maxL ret e s m args below meth c s₁ → c.maxLocals = maxL → (∀ x ∈ c.exceptionTable.toList, False) → Pc args s →
      W p l e (headSpec ws rm).room s m args below meth c s.heap [] 0 0 (vx_MQ below Qc XC args s mc ms free) (entryFrame m args maxL)) : vx_Met l y ws rm Pc Qc XC mc ms free := by
  refine MetFree.of_bodyS (code := cc) (maxLocals := maxL) (ret := ret) hy ?_ ?_
  · intro args s m h hn
    obtain ⟨meth, c, h1, h2, h3, h4, h5, h6, -, -⟩ := Cond.code_spec hn (atoms_spec (ws := ws) h _ (by rw [hw]; exact List.mem_cons_self))
    exact ⟨meth, c, h1, h2, h3, h4, h5, h6⟩
  · intro p e s m args below meth c s₁ B hml hP _
    have hh0 : s₁.heap = s.heap := by rw [B.state]; rfl
    have ht : ∀ x ∈ c.exceptionTable.toList, False := by
      obtain ⟨meth9, c9, h1, h2, -, -, -, -, h7, -⟩ := Cond.code_spec B.named (atoms_spec (ws := ws) B.pre _ (by rw [hw]; exact List.mem_cons_self))
      cases Option.some.inj (h1.symm.trans B.method)
      cases Option.some.inj (h2.symm.trans (Stand.of_body B).code)
      intro x hx
      rw [Array.isEmpty_iff.mp h7] at hx
      cases hx
    obtain ⟨t, a1, o, b1, b2, b3⟩ := body p e s m args below meth c s₁ B hml ht hP s₁ hh0 (Stand.of_body B)
    exact ⟨t, o, a1, b1, b2, b3⟩
/-- the table of a body with handlers -/
theorem vx_table {p : Program} {x y : MethodName} {S : Spec} {cc bytes : ByteArray} {maxL maxL' : Nat} {ret ret' : Option FieldType} {e : Env} {s s₁ : State} {m : MethodId} {args : Array Value} {below : List Frame} {meth : Method} {c : Code} {hh : List (Nat × Nat × Nat × Nat)}
    (B : BodyLoose p l y S cc maxL ret e s m args below meth c s₁) (h : (Cond.codeWith y bytes maxL' ret' hh).before args s = true) : c.exceptionTable.toList = tableOf hh := by
  obtain ⟨m9, meth9, c9, hn9, h1, h2, -, -, h6, -⟩ := Cond.codeWith_spec h
  cases Option.some.inj (hn9.symm.trans B.named)
  cases Option.some.inj (h1.symm.trans B.method)
  cases Option.some.inj (h2.symm.trans (Stand.of_body B).code)
  rw [← h6, table_eq]
end Bodies
end VXA
/-! ===== END ===== -/
/-! ===== BEGIN a static call of a method with an exception table ===== -/
section VXS
variable {p : Program} {l : Launch} {e : Env} {R : Room} {s : State} {m : MethodId} {args : Array Value} {below : List Frame} {meth : Method} {c : Code} {T : State} {H : Heap} {locs : List Loc} {cells slots : Nat}
abbrev vx_CSW (R : Room) (s : State) (args : Array Value) (own : String) (index : Nat) (y : MethodName) (bytes : ByteArray) (maxL : Nat) (ret : Option FieldType) (hh : List (Nat × Nat × Nat × Nat)) (ws : List Cond) (rm : Room) (mc ms n : Nat) : Prop :=
  (rm.cells = mc ∧ rm.slots = ms ∧ rm.frames + 1 ≤ R.frames ∧ 8 + (maxL + 11) + rm.locals ≤ R.locals ∧ (∀ w ∈ ws, ∀ (a' : Array Value) (U : State), s.WarmedH U.vm → w.before a' U = true) ∧ Cond.codeWith y bytes maxL ret hh ∈ ws) ∧
  (Cond.codeWith y bytes maxL ret hh).before args s = true ∧ (Cond.initialized y.cls).before args s = true ∧ (y.cls ≠ "java/lang/invoke/MethodHandle" ∧ y.cls ≠ "java/lang/invoke/VarHandle") ∧
  (∀ sig, parseMethodDescriptor y.desc = some sig → n = sig.parameters.length) ∧ (Cond.methodLink own index y).before args s = true ∧ (Cond.static y).before args s = true
theorem vx_cwSW {own : String} {index maxL mc ms : Nat} {y : MethodName} {bytes : ByteArray} {ret : Option FieldType} {hh : List (Nat × Nat × Nat × Nat)} {Ts ws ws' : List Cond} {rm : Room} (n : Nat) (ht : ∀ w ∈ Ts, w.before args s = true) (hT : GoodIn Ts (va_wsS own index y ws)) (hw : ws = Cond.codeWith y bytes maxL ret hh :: ws') (hrc : rm.cells = mc) (hrs : rm.slots = ms)
    (hd : y.cls ≠ "java/lang/invoke/MethodHandle" ∧ y.cls ≠ "java/lang/invoke/VarHandle" ∧ (parseMethodDescriptor y.desc).map (fun d => d.parameters.length) = some n) (hR : rm.frames + 1 ≤ R.frames ∧ 8 + (maxL + 11) + rm.locals ≤ R.locals) :
    vx_CSW R s args own index y bytes maxL ret hh ws rm mc ms n := by
  have ok : ∀ w ∈ va_wsS own index y ws, w.before args s = true := fun w h => ht w (hT w h).1
  have hG : GoodIn Ts ws := fun w h => hT w (by unfold va_wsS; exact List.mem_append_right _ h)
  have hc : Cond.codeWith y bytes maxL ret hh ∈ ws := by rw [hw]; exact List.mem_cons_self
  refine ⟨⟨hrc, hrs, hR.1, hR.2, pay_in ht hG, hc⟩, ht _ (hG _ hc).1, ok _ (by simp [va_wsS]), ⟨hd.1, hd.2.1⟩, fun sig h => ?_, ok _ (by simp [va_wsS]), ok _ (by simp [va_wsS])⟩
  have h2 := hd.2.2
  rw [h] at h2
  exact (Option.some.inj h2).symm
theorem vx_callSW (X : Stand p l e R s m args below meth c T locs cells slots) (hexec : p.tables.exec = Jvm.exec) {own : String} {index : Nat} {y : MethodName} {bytes : ByteArray} {maxL : Nat} {ret : Option FieldType} {hh : List (Nat × Nat × Nat × Nat)}
    (hown : s.vm.findClass own = some m.cls) (hlink : (Cond.methodLink own index y).before args s = true) (hstat : (Cond.static y).before args s = true) (hinit : (Cond.initialized y.cls).before args s = true)
    (hcode : (Cond.codeWith y bytes maxL ret hh).before args s = true) (hy : y.cls ≠ "java/lang/invoke/MethodHandle" ∧ y.cls ≠ "java/lang/invoke/VarHandle")
    {W9 : Nat} {Pre : Pt → Array Value → Prop} {Post : Pt → Array Value → Option Value → Pt → Prop} (hK : Back l R p e below s args y 3 W9 Pre Post)
    {g : JFrame} (hg : g.method = m) (hsize : g.locals.size = c.maxLocals) {argsL rest : List Value} (hlen : ∀ sig, parseMethodDescriptor y.desc = some sig → argsL.length = sig.parameters.length)
    (hstack : g.stack = argsL.reverse ++ rest) (hW : 2 * g.monitorRoom + (rest.map fun v => v.category).sum ≤ W9) (hdg : decode c.code g.pc = .ok (.invokestatic index, 3))
    (hpre : ∀ vm₁, s.WarmedH vm₁ → Pre ⟨T.setVm vm₁, locs, cells, slots⟩ argsL.toArray) :
    ∃ (v : Option Value) (vm₁ : Vm) (B : Pt), s.WarmedH vm₁ ∧ Stand p l e R s m args below meth c B.U B.locs B.cells B.slots ∧ Post ⟨T.setVm vm₁, locs, cells, slots⟩ argsL.toArray v B ∧
      ∀ target, Steps p.tables e below (B.U.setTop { g with pc := g.pc + 3, stack := v.toList ++ rest }) target → Steps p.tables e below (T.setTop g) target := by
  obtain ⟨mk, methM, cM, hnamed, hmethM, -, -, -, -, -, -, hsigM⟩ := Cond.codeWith_spec hcode
  have hstatic : methM.isStatic = true := Cond.static_spec hnamed hmethM hstat
  obtain ⟨kP, hkP, -⟩ := className_of_methodNamed hnamed
  have hinitP : kP.init = .initialized := Cond.initialized_spec (findClass_of_methodNamed hnamed) hkP hinit
  obtain ⟨vm₁, X₁, hstep₁⟩ := X.invokestatic hexec hown hlink hnamed hmethM hstatic hkP hinitP hy (g := g) hg (argsL := argsL) (rest := rest) (hlen _ hsigM) hstack hdg
  obtain ⟨v, B, X', hpost, hsteps⟩ := hK m meth c ⟨T.setVm vm₁, locs, cells, slots⟩ { g with stack := rest } (.invokestatic index) mk argsL.toArray X₁ hg hsize hdg hW (X₁.named hnamed) (hpre vm₁ X₁.warmed)
  exact ⟨v, vm₁, B, X₁.warmed, X', hpost, fun target h => hstep₁ _ fun acts => by rw [doInvoke_state]; exact hsteps.trans h⟩
theorem vx_runSW {y : MethodName} {bytes cc : ByteArray} {maxL nL mc ms n index : Nat} {ret : Option FieldType} {hh : List (Nat × Nat × Nat × Nat)} {ws : List Cond} {rm : Room} {Pc : Array Value → State → Prop} {Qc : Array Value → State → Outcome → State → Prop} {free : Addr → Prop} {Ts : List Cond} {own : String} {As rest : List Value} {g : JFrame}
    (S : CallFix p m c cc nL s args Ts own) (hM : Met l y ws rm Pc Qc mc ms free) (cw : vx_CSW R s args own index y bytes maxL ret hh ws rm mc ms n) (hp : PreS s H Pc As)
    (hg : g.method = m) (hn : As.length = n) (hsize : g.locals.size = nL) (hstack : g.stack = As.reverse ++ rest) (hW : 2 * g.monitorRoom + (rest.map fun v => v.category).sum ≤ 8) (hdg : decode cc g.pc = .ok (.invokestatic index, 3)) (hf : cells + mc ≤ R.cells ∧ slots + ms ≤ R.slots) :
    va_Run p l e R s m args below meth c H locs cells slots mc ms g rest (Qc As.toArray) (free) := by
  obtain ⟨⟨hrc, hrs, hfr, hlo, hws, hcw⟩, hcode, hini, hy, hlen, hl, hstt⟩ := cw
  have hK : Back l R p e below s args y 3 8 (PreOf R mc ms Pc) (PostOf Qc mc ms free) := va_backW (hh := hh) (bytes := bytes) (maxL := maxL) (ret := ret) hM hp.1 hrc hrs hfr hlo hws hcw (fun a' U hW => word_at hW (Or.inl (by first | rfl | simp [Cond.onTables, Cond.keeps, Cond.steady])) hini)
  obtain ⟨hx, hb, hml, ho, -⟩ := S
  intro T hT X
  obtain ⟨v, vm₁, ⟨U', l2, c2, s2⟩, hW₁, X', ⟨g', mk, t, L, e1, e2, hq, h1, hL, h2, h3⟩, st⟩ := vx_callSW X hx (hh := hh) (bytes := bytes) (maxL := maxL) (ret := ret) ho hl hstt hini hcode hy hK hg (hsize.trans hml.symm) (argsL := As) (rest := rest) (fun sig h => hn.trans (hlen sig h)) hstack hW (by rw [hb]; exact hdg)
    (fun vm₁ hW₁ => ⟨hf.1, hf.2, hp.2 (T.setVm vm₁) hT hW₁⟩)
  dsimp only [Pt.U, Pt.locs, Pt.cells, Pt.slots] at X' e1 e2 h1 h2 h3 st
  subst h1; subst h2; subst h3
  exact ⟨v, (T.setVm vm₁).calling g' mk As.toArray, t, U', L, hT, X', hL, e1, e2, hq, st⟩
/-- not caught here, past rows that name other classes: it goes on to the caller -/
theorem vx_outP {p : Program} {l : Launch} {e : Env} {R : Room} {s : State} {m : MethodId} {args : Array Value} {below : List Frame} {meth : Method} {c : Code} {H : Heap} {locs : List Loc} {cells slots : Nat} {free : Addr → Prop} {ls : Array Slot} {rest : List Value} {Qc : Array Value → State → Outcome → State → Prop} {XC : String → State → State → Prop}
    {pc : Nat} {own E : String} {ce : Cell} {q : Addr} {mc ms : Nat} (hown : s.vm.findClass own = some m.cls) (hlocks : meth.locks = false)
    (hpass : ∀ z ∈ c.exceptionTable.toList, covers z pc = false ∨ (z.catchType ≠ 0 ∧ ∃ nm : String, (Cond.classLink own z.catchType nm).before args s = true ∧ va_Nc E nm s)) (hcell : H[q]? = some ce) (hv : ce.vm = .none) (hcl : s.vm.findClass E = some ce.cls)
    (hx : ∀ t : State, t.heap = H → s.vm.Alike t.vm → XC E s t) (hf : ∀ z ∈ locs, free z.base) (hc : cells ≤ mc) (hs : slots ≤ ms) :
    vx_W p l e R s m args below meth c H locs cells slots (vx_MQ below Qc XC args s mc ms free) (F0 m pc ls rest) q := by
  intro T hT X
  have hpl : e.platform.magicAccessors = ({} : Platform).magicAccessors := by rw [X.admits.platform]
  obtain ⟨vm', hW', X', st⟩ := X.outThrough hlocks q (g := F0 m pc ls rest) rfl rfl rfl (cell := ce) (by rw [hT]; exact hcell) (by rw [hv]; rfl)
    (by obtain ⟨k9, h9, -⟩ := Vm.findClass_spec hcl; exact ⟨k9, h9⟩) (fun z hz => by
      rcases hpass z hz with h | ⟨hz0, nm, hl1, hn1⟩
      · exact Or.inl h
      · obtain ⟨c6, hc6, hcl6⟩ := Cond.classLink_spec hown hl1 e.platform hpl
        obtain ⟨a8, b8, h1, h2, h3⟩ := hn1
        cases Option.some.inj (h1.symm.trans hcl)
        cases Option.some.inj (h2.symm.trans hc6)
        exact Or.inr ⟨hz0, _, hcl6, h3⟩)
  obtain ⟨g₀, hfr⟩ := X'.frames_eq
  have hcell9 : ((T.setVm vm').setFrames (.throwing q :: below)).heap[q]? = some ce := by
    show T.heap[q]? = some ce
    rw [hT]; exact hcell
  have hend : Ended ((T.setVm vm').setFrames (.throwing q :: below)) below (.threw q) := State.frames_setFrames _ (State.cur_lt_of_frames hfr)
  refine ⟨(T.setVm vm').setFrames (.throwing q :: below), ?_, .threw q, X'.here.running, hend, Or.inr ⟨q, rfl, E, ce, locs, hx _ hT (X'.ends _).1.alike, hcell9, hv, hcl, (X'.ends _).1, (X'.ends _).2.mono hc hs, hf⟩⟩
  rw [X.pushThrowing_eq]
  exact st
/-- a thing of a world lies in the heap -/
theorem vx_lt {D : va_G} {cl : List vw_C} {ws : va_W} {H1 : Heap} (h : va_P D cl ws H1) {k : Nat} {q : Nat × va_E} (hk : ws[k]? = some q) : q.1 < H1.size := (h k q hk).lt
end VXS
/-! ===== END ===== -/
/-! ===== BEGIN methods with a table of their own: called by a name, returning or throwing ===== -/
section VXH
/-! vx_backW, vx_callVX, vx_callSX, vx_callVW, vx_runVW, vx_runVX, vx_runSX, vx_ofWH follow the same proofs as their sisters above (Free/Laws.lean, Shelf42/LK1.lean); vx_outP calls Shelf42/NT130.lean (outThrough). -/
section
variable {l : Launch} {R : Room} {p : Program} {e : Env} {below : List Frame} {s : State} {sargs : Array Value} {y : MethodName} {len W9 : Nat}
theorem vx_backW {ws : List Cond} {rm : Room} {Pc : Array Value → State → Prop} {Qc : Array Value → State → Outcome → State → Prop} {XC : String → State → State → Prop} {mc ms : Nat} {free : Addr → Prop} {bytes : ByteArray} {maxL : Nat} {ret : Option FieldType} {hh : List (Nat × Nat × Nat × Nat)}
    (hM : vx_Met l y ws rm Pc Qc XC mc ms free) (hblind : FrameBlind Pc) (hrc : rm.cells = mc) (hrs : rm.slots = ms)
    (hframes : rm.frames + 1 ≤ R.frames) (hlocals : W9 + (maxL + 11) + rm.locals ≤ R.locals)
    (hws : ∀ w ∈ ws, ∀ a' U, s.WarmedH U.vm → w.before a' U = true) (hcode : Cond.codeWith y bytes maxL ret hh ∈ ws) (hinit : ∀ a' U, s.WarmedH U.vm → (Cond.initialized y.cls).before a' U = true) :
    vx_Back l R p e below s sargs y len W9 (PreOf R mc ms Pc) (PostOf Qc mc ms free) (vx_Post XC mc ms free) := by
  intro m meth c A g ig mk a X hg hsize hdg hW hn hp
  have h1 : (headSpec ws rm).pre.before a A.U = true := atoms_intro fun w hw => hws w hw _ _ X.warmed
  have h2 : (Cond.codeWith y bytes maxL ret hh).before a A.U = true := hws _ hcode _ _ X.warmed
  have h3 : (Cond.initialized y.cls).before a A.U = true := hinit _ _ X.warmed
  have h4 : A.cells + (headSpec ws rm).room.cells ≤ R.cells := by rw [show (headSpec ws rm).room.cells = mc from hrc]; exact hp.1
  have h5 : A.slots + (headSpec ws rm).room.slots ≤ R.slots := by rw [show (headSpec ws rm).room.slots = ms from hrs]; exact hp.2.1
  have hPc : Pc a (A.U.calling g mk a) := hblind _ _ _ _ hp.2.2
  obtain ⟨U, Ls, c0, s0⟩ := A
  dsimp only [Pt.U, Pt.locs, Pt.cells, Pt.slots] at h1 h2 h3 h4 h5 X hn hPc ⊢
  obtain ⟨m9, methY, cY, hn9, hmY, hcY, -, hlY, -⟩ := Cond.codeWith_spec h2
  cases Option.some.inj (hn9.symm.trans hn)
  obtain ⟨kY, hkY, -⟩ := className_of_methodNamed hn
  have hinitY : kY.init = .initialized := Cond.initialized_spec (findClass_of_methodNamed hn) hkY h3
  have h : At U g.method c below := by rw [hg]; exact X.here
  have hlocals9 : W9 + (maxL + 11) + (headSpec ws rm).room.locals ≤ R.locals := hlocals
  have happ : (headSpec ws rm).appliesLoose y e.platform (U.calling g mk a) = true :=
    Spec.appliesLoose_calling (g := g) h hdg hn hkY hinitY
      (X.room_calling (g := g) (R' := (headSpec ws rm).room) hsize hmY hcY hframes (by rw [hlY]; omega) h4 h5) h1
  obtain ⟨mid, hmid⟩ := h.above
  have hfr : (U.setTop g).frames = (.java g :: mid) ++ below := by rw [State.frames_setTop' g h.top, hmid]; rfl
  obtain ⟨o, s₂, hsteps, -, hend, hq⟩ := Steps.callFree hM p X.admits X.cas X.clock (acts := []) hfr happ hPc trivial
  have hq' : vx_Q Qc XC mc ms free a (U.calling g mk a) o s₂ := hq
  rw [State.frames_setTop' g h.top] at hend
  obtain ⟨g₀, hg0⟩ := Option.isSome_iff_exists.mp h.top
  obtain ⟨r, hr⟩ := State.topJava?_eq_some.mp hg0
  have hr' : (({ U with heap := s₂.heap, slotsUsed := s₂.slotsUsed } : State).setVm s₂.vm).frames = .java g₀ :: r := hr
  rcases hq' with ⟨hqc, L, hfe, hL⟩ | ⟨q, rfl, E, ce, L, hx, hce, hcv, hcl, hW₂, hsm, hL⟩
  · obtain ⟨⟨v, rfl⟩, hW₂, e2, q2, q3, q4, q5, q6⟩ := id hfe
    have e3 : s₂ = ({ (U.calling g mk a).setFrames s₂.frames with heap := s₂.heap, slotsUsed := s₂.slotsUsed } : State).setVm s₂.vm := by
      have : s₂ = ({ s₂ with vm := (U.calling g mk a).vm } : State).setVm s₂.vm := rfl
      rw [e2] at this
      exact this
    obtain ⟨c₂, i₂, len₂, hc₂, hd₂, hf₂⟩ := hend
    have hW' : U.WarmedH s₂.vm := hW₂
    have hcc : c₂ = c := by
      have h1 : s₂.code? g.method = U.code? g.method := by
        rw [State.code?_eq, State.code?_eq, hW'.alike.method?]
      exact Option.some.inj (hc₂.symm.trans (h1.trans h.code))
    subst hcc
    have hlen : len₂ = len := by rw [hdg] at hd₂; cases hd₂; rfl
    subst hlen
    have hs₂ : s₂ = (({ U with heap := s₂.heap, slotsUsed := s₂.slotsUsed } : State).setVm s₂.vm).setTop { g with pc := g.pc + len₂, stack := v.toList ++ g.stack } := by
      refine e3.trans ?_
      rw [hf₂, State.calling_eq h.top, State.setFrames_setFrames, State.setTop_of_frames _ hr', hr]
      rfl
    have hsame : U.sameButNew ({ U with heap := s₂.heap, slotsUsed := s₂.slotsUsed } : State) L mc ms := by
      refine ⟨?_, q2, q3, q4, q5, q6⟩
      obtain ⟨t, ht, -⟩ := State.frames_cons hr
      show ({ U with heap := s₂.heap, slotsUsed := s₂.slotsUsed } : State) = { U.setFrames U.frames with heap := s₂.heap, slotsUsed := s₂.slotsUsed }
      rw [State.setFrames_self ht]
    subst hg
    refine Or.inl ⟨v, ⟨(({ U with heap := s₂.heap, slotsUsed := s₂.slotsUsed } : State).setVm s₂.vm), Ls ++ L, c0 + mc, s0 + ms⟩,
      ⟨X.admits, X.cas, X.clock, X.frames, X.room, X.hears, X.method, X.code, (X.here.setHeapUsed s₂.heap s₂.slotsUsed).setVm hW'.alike, X.tail, State.WarmedH.trans X.warmed hW', X.limits, X.bytes, X.same.trans (hsame.setVm s.vm)⟩,
      ⟨g, mk, s₂, L, rfl, rfl, hqc, rfl, hL, rfl, rfl⟩, ?_⟩
    show Steps p.tables e below _ ((({ U with heap := s₂.heap, slotsUsed := s₂.slotsUsed } : State).setVm s₂.vm).setTop { g with pc := g.pc + len₂, stack := v.toList ++ g.stack })
    rw [← hs₂]
    exact hsteps
  · obtain ⟨e2, q2, q3, q4, q5, q6⟩ := id hsm
    have e3 : s₂ = ({ (U.calling g mk a).setFrames s₂.frames with heap := s₂.heap, slotsUsed := s₂.slotsUsed } : State).setVm s₂.vm := by
      have : s₂ = ({ s₂ with vm := (U.calling g mk a).vm } : State).setVm s₂.vm := rfl
      rw [e2] at this
      exact this
    have hf₂ : s₂.frames = .throwing q :: .java g :: U.frames.tail := hend
    have hW' : U.WarmedH s₂.vm := hW₂
    have hs₂ : s₂ = ((({ U with heap := s₂.heap, slotsUsed := s₂.slotsUsed } : State).setVm s₂.vm).setTop g).pushFrame (.throwing q) := by
      refine e3.trans ?_
      rw [hf₂, State.calling_eq h.top, State.setFrames_setFrames, State.pushFrame, State.frames_setTop _ hr', State.setTop_of_frames _ hr', State.setFrames_setFrames, hr]
      rfl
    have hsame : U.sameButNew ({ U with heap := s₂.heap, slotsUsed := s₂.slotsUsed } : State) L mc ms := by
      refine ⟨?_, q2, q3, q4, q5, q6⟩
      obtain ⟨t, ht, -⟩ := State.frames_cons hr
      show ({ U with heap := s₂.heap, slotsUsed := s₂.slotsUsed } : State) = { U.setFrames U.frames with heap := s₂.heap, slotsUsed := s₂.slotsUsed }
      rw [State.setFrames_self ht]
    subst hg
    refine Or.inr ⟨q, ⟨(({ U with heap := s₂.heap, slotsUsed := s₂.slotsUsed } : State).setVm s₂.vm), Ls ++ L, c0 + mc, s0 + ms⟩,
      ⟨X.admits, X.cas, X.clock, X.frames, X.room, X.hears, X.method, X.code, (X.here.setHeapUsed s₂.heap s₂.slotsUsed).setVm hW'.alike, X.tail, State.WarmedH.trans X.warmed hW', X.limits, X.bytes, X.same.trans (hsame.setVm s.vm)⟩,
      ⟨g, mk, s₂, L, E, ce, rfl, rfl, hx, hce, hcv, hcl, rfl, hL, rfl, rfl⟩, ?_⟩
    show Steps p.tables e below _ (((({ U with heap := s₂.heap, slotsUsed := s₂.slotsUsed } : State).setVm s₂.vm).setTop g).pushFrame (.throwing q))
    rw [← hs₂]
    exact hsteps
end
variable {p : Program} {l : Launch} {e : Env} {R : Room} {s : State} {m : MethodId} {args : Array Value} {below : List Frame} {meth : Method} {c : Code} {T : State} {H : Heap} {locs : List Loc} {cells slots : Nat}
theorem vx_callVX (X : Stand p l e R s m args below meth c T locs cells slots) (hexec : p.tables.exec = Jvm.exec) {own C : String} {index : Nat} {y : MethodName} {bytes : ByteArray} {maxL : Nat} {ret : Option FieldType} {hh : List (Nat × Nat × Nat × Nat)}
    (hown : s.vm.findClass own = some m.cls) (hlink : (Cond.methodLink own index y).before args s = true) (hinst : (Cond.instanceMethod y).before args s = true) (hsel : (Cond.selects C y y).before args s = true)
    (hcode : (Cond.codeWith y bytes maxL ret hh).before args s = true) (hy : y.cls ≠ "java/lang/invoke/MethodHandle" ∧ y.cls ≠ "java/lang/invoke/VarHandle")
    {W9 : Nat} {Pre : Pt → Array Value → Prop} {Post : Pt → Array Value → Option Value → Pt → Prop} {PostX : Pt → Array Value → Addr → Pt → Prop} (hK : vx_Back l R p e below s args y 3 W9 Pre Post PostX)
    {b : Addr} {cellB : Cell} (hcell : T.heap[b]? = some cellB) (hobj : cellB.vm.isStatics = false) (hcls : s.vm.findClass C = some cellB.cls)
    {g : JFrame} (hg : g.method = m) (hsize : g.locals.size = c.maxLocals) {argsL rest : List Value} (hlen : ∀ sig, parseMethodDescriptor y.desc = some sig → argsL.length = sig.parameters.length)
    (hstack : g.stack = argsL.reverse ++ .ref b :: rest) (hW : 2 * g.monitorRoom + (rest.map fun v => v.category).sum ≤ W9) (hdg : decode c.code g.pc = .ok (.invokevirtual index, 3))
    (hpre : ∀ vm₁, s.WarmedH vm₁ → Pre ⟨T.setVm vm₁, locs, cells, slots⟩ (Value.ref b :: argsL).toArray) :
    (∃ (v : Option Value) (vm₁ : Vm) (B : Pt), s.WarmedH vm₁ ∧ Stand p l e R s m args below meth c B.U B.locs B.cells B.slots ∧ Post ⟨T.setVm vm₁, locs, cells, slots⟩ (Value.ref b :: argsL).toArray v B ∧
      ∀ target, Steps p.tables e below (B.U.setTop { g with pc := g.pc + 3, stack := v.toList ++ rest }) target → Steps p.tables e below (T.setTop g) target) ∨
    (∃ (q : Addr) (vm₁ : Vm) (B : Pt), s.WarmedH vm₁ ∧ Stand p l e R s m args below meth c B.U B.locs B.cells B.slots ∧ PostX ⟨T.setVm vm₁, locs, cells, slots⟩ (Value.ref b :: argsL).toArray q B ∧
      Steps p.tables e below (T.setTop g) ((B.U.setTop { g with stack := rest }).pushFrame (.throwing q))) := by
  obtain ⟨mk, methM, hnamed, hmethM, hstM, habM⟩ := Cond.instanceMethod_spec hinst
  obtain ⟨m8, methM', cM, hn8, hmethM', -, -, -, -, -, -, hsigM⟩ := Cond.codeWith_spec hcode
  cases Option.some.inj (hn8.symm.trans hnamed)
  cases hmethM.symm.trans hmethM'
  obtain ⟨c2, r2, m2, q1, q2, q3, q4, kP, hkP, hkPi⟩ := Cond.selects_spec hsel
  cases hcls.symm.trans q1
  cases (State.methodFound?_of_named hnamed hy).symm.trans q2
  cases hnamed.symm.trans q3
  have hselP : selectMethod e.platform s.vm cellB.cls mk = .method mk := by rw [Launch.admits_selectMethod X.admits]; exact q4
  obtain ⟨vm₁, X₁, hstep₁⟩ := X.invokevirtual hexec hown hlink hnamed hmethM hstM hkP hkPi hy (a := b) (cell := cellB) hcell
    (fun z h => by rw [h] at hobj; cases hobj) hselP hmethM habM hkP hkPi (g := g) hg (argsL := argsL) (rest := rest) (hlen _ hsigM) hstack hdg
  rcases hK m meth c ⟨T.setVm vm₁, locs, cells, slots⟩ { g with stack := rest } (.invokevirtual index) mk (Value.ref b :: argsL).toArray X₁ hg hsize hdg hW (X₁.named hnamed) (hpre vm₁ X₁.warmed) with ⟨v, B, X', hpost, hsteps⟩ | ⟨q, B, X', hpost, hsteps⟩
  · exact Or.inl ⟨v, vm₁, B, X₁.warmed, X', hpost, fun target h => hstep₁ _ fun acts => by rw [doInvoke_state]; exact hsteps.trans h⟩
  · exact Or.inr ⟨q, vm₁, B, X₁.warmed, X', hpost, hstep₁ _ fun acts => by rw [doInvoke_state]; exact hsteps⟩
theorem vx_callSX (X : Stand p l e R s m args below meth c T locs cells slots) (hexec : p.tables.exec = Jvm.exec) {own : String} {index : Nat} {y : MethodName} {bytes : ByteArray} {maxL : Nat} {ret : Option FieldType} {hh : List (Nat × Nat × Nat × Nat)}
    (hown : s.vm.findClass own = some m.cls) (hlink : (Cond.methodLink own index y).before args s = true) (hstat : (Cond.static y).before args s = true) (hinit : (Cond.initialized y.cls).before args s = true)
    (hcode : (Cond.codeWith y bytes maxL ret hh).before args s = true) (hy : y.cls ≠ "java/lang/invoke/MethodHandle" ∧ y.cls ≠ "java/lang/invoke/VarHandle")
    {W9 : Nat} {Pre : Pt → Array Value → Prop} {Post : Pt → Array Value → Option Value → Pt → Prop} {PostX : Pt → Array Value → Addr → Pt → Prop} (hK : vx_Back l R p e below s args y 3 W9 Pre Post PostX)
    {g : JFrame} (hg : g.method = m) (hsize : g.locals.size = c.maxLocals) {argsL rest : List Value} (hlen : ∀ sig, parseMethodDescriptor y.desc = some sig → argsL.length = sig.parameters.length)
    (hstack : g.stack = argsL.reverse ++ rest) (hW : 2 * g.monitorRoom + (rest.map fun v => v.category).sum ≤ W9) (hdg : decode c.code g.pc = .ok (.invokestatic index, 3))
    (hpre : ∀ vm₁, s.WarmedH vm₁ → Pre ⟨T.setVm vm₁, locs, cells, slots⟩ argsL.toArray) :
    (∃ (v : Option Value) (vm₁ : Vm) (B : Pt), s.WarmedH vm₁ ∧ Stand p l e R s m args below meth c B.U B.locs B.cells B.slots ∧ Post ⟨T.setVm vm₁, locs, cells, slots⟩ argsL.toArray v B ∧
      ∀ target, Steps p.tables e below (B.U.setTop { g with pc := g.pc + 3, stack := v.toList ++ rest }) target → Steps p.tables e below (T.setTop g) target) ∨
    (∃ (q : Addr) (vm₁ : Vm) (B : Pt), s.WarmedH vm₁ ∧ Stand p l e R s m args below meth c B.U B.locs B.cells B.slots ∧ PostX ⟨T.setVm vm₁, locs, cells, slots⟩ argsL.toArray q B ∧
      Steps p.tables e below (T.setTop g) ((B.U.setTop { g with stack := rest }).pushFrame (.throwing q))) := by
  obtain ⟨mk, methM, cM, hnamed, hmethM, -, -, -, -, -, -, hsigM⟩ := Cond.codeWith_spec hcode
  have hstatic : methM.isStatic = true := Cond.static_spec hnamed hmethM hstat
  obtain ⟨kP, hkP, -⟩ := className_of_methodNamed hnamed
  have hinitP : kP.init = .initialized := Cond.initialized_spec (findClass_of_methodNamed hnamed) hkP hinit
  obtain ⟨vm₁, X₁, hstep₁⟩ := X.invokestatic hexec hown hlink hnamed hmethM hstatic hkP hinitP hy (g := g) hg (argsL := argsL) (rest := rest) (hlen _ hsigM) hstack hdg
  rcases hK m meth c ⟨T.setVm vm₁, locs, cells, slots⟩ { g with stack := rest } (.invokestatic index) mk argsL.toArray X₁ hg hsize hdg hW (X₁.named hnamed) (hpre vm₁ X₁.warmed) with ⟨v, B, X', hpost, hsteps⟩ | ⟨q, B, X', hpost, hsteps⟩
  · exact Or.inl ⟨v, vm₁, B, X₁.warmed, X', hpost, fun target h => hstep₁ _ fun acts => by rw [doInvoke_state]; exact hsteps.trans h⟩
  · exact Or.inr ⟨q, vm₁, B, X₁.warmed, X', hpost, hstep₁ _ fun acts => by rw [doInvoke_state]; exact hsteps⟩
theorem vx_callVW (X : Stand p l e R s m args below meth c T locs cells slots) (hexec : p.tables.exec = Jvm.exec) {own C : String} {index : Nat} {y : MethodName} {bytes : ByteArray} {maxL : Nat} {ret : Option FieldType} {hh : List (Nat × Nat × Nat × Nat)}
    (hown : s.vm.findClass own = some m.cls) (hlink : (Cond.methodLink own index y).before args s = true) (hinst : (Cond.instanceMethod y).before args s = true) (hsel : (Cond.selects C y y).before args s = true)
    (hcode : (Cond.codeWith y bytes maxL ret hh).before args s = true) (hy : y.cls ≠ "java/lang/invoke/MethodHandle" ∧ y.cls ≠ "java/lang/invoke/VarHandle")
    {W9 : Nat} {Pre : Pt → Array Value → Prop} {Post : Pt → Array Value → Option Value → Pt → Prop} (hK : Back l R p e below s args y 3 W9 Pre Post)
    {b : Addr} {cellB : Cell} (hcell : T.heap[b]? = some cellB) (hobj : cellB.vm.isStatics = false) (hcls : s.vm.findClass C = some cellB.cls)
    {g : JFrame} (hg : g.method = m) (hsize : g.locals.size = c.maxLocals) {argsL rest : List Value} (hlen : ∀ sig, parseMethodDescriptor y.desc = some sig → argsL.length = sig.parameters.length)
    (hstack : g.stack = argsL.reverse ++ .ref b :: rest) (hW : 2 * g.monitorRoom + (rest.map fun v => v.category).sum ≤ W9) (hdg : decode c.code g.pc = .ok (.invokevirtual index, 3))
    (hpre : ∀ vm₁, s.WarmedH vm₁ → Pre ⟨T.setVm vm₁, locs, cells, slots⟩ (Value.ref b :: argsL).toArray) :
    ∃ (v : Option Value) (vm₁ : Vm) (B : Pt), s.WarmedH vm₁ ∧ Stand p l e R s m args below meth c B.U B.locs B.cells B.slots ∧ Post ⟨T.setVm vm₁, locs, cells, slots⟩ (Value.ref b :: argsL).toArray v B ∧
      ∀ target, Steps p.tables e below (B.U.setTop { g with pc := g.pc + 3, stack := v.toList ++ rest }) target → Steps p.tables e below (T.setTop g) target := by
  obtain ⟨mk, methM, hnamed, hmethM, hstM, habM⟩ := Cond.instanceMethod_spec hinst
  obtain ⟨m8, methM', cM, hn8, hmethM', -, -, -, -, -, -, hsigM⟩ := Cond.codeWith_spec hcode
  cases Option.some.inj (hn8.symm.trans hnamed)
  cases hmethM.symm.trans hmethM'
  obtain ⟨c2, r2, m2, q1, q2, q3, q4, kP, hkP, hkPi⟩ := Cond.selects_spec hsel
  cases hcls.symm.trans q1
  cases (State.methodFound?_of_named hnamed hy).symm.trans q2
  cases hnamed.symm.trans q3
  have hselP : selectMethod e.platform s.vm cellB.cls mk = .method mk := by rw [Launch.admits_selectMethod X.admits]; exact q4
  obtain ⟨vm₁, X₁, hstep₁⟩ := X.invokevirtual hexec hown hlink hnamed hmethM hstM hkP hkPi hy (a := b) (cell := cellB) hcell
    (fun z h => by rw [h] at hobj; cases hobj) hselP hmethM habM hkP hkPi (g := g) hg (argsL := argsL) (rest := rest) (hlen _ hsigM) hstack hdg
  obtain ⟨v, B, X', hpost, hsteps⟩ := hK m meth c ⟨T.setVm vm₁, locs, cells, slots⟩ { g with stack := rest } (.invokevirtual index) mk (Value.ref b :: argsL).toArray X₁ hg hsize hdg hW (X₁.named hnamed) (hpre vm₁ X₁.warmed)
  exact ⟨v, vm₁, B, X₁.warmed, X', hpost, fun target h => hstep₁ _ fun acts => by rw [doInvoke_state]; exact hsteps.trans h⟩
abbrev vx_CVW (R : Room) (s : State) (args : Array Value) (own C : String) (index : Nat) (y : MethodName) (bytes : ByteArray) (maxL : Nat) (ret : Option FieldType) (hh : List (Nat × Nat × Nat × Nat)) (ws : List Cond) (rm : Room) (mc ms n : Nat) : Prop :=
  (rm.cells = mc ∧ rm.slots = ms ∧ rm.frames + 1 ≤ R.frames ∧ 8 + (maxL + 11) + rm.locals ≤ R.locals ∧ (∀ w ∈ ws, ∀ (a' : Array Value) (U : State), s.WarmedH U.vm → w.before a' U = true) ∧ Cond.codeWith y bytes maxL ret hh ∈ ws) ∧
  (Cond.codeWith y bytes maxL ret hh).before args s = true ∧ (Cond.initialized y.cls).before args s = true ∧ (y.cls ≠ "java/lang/invoke/MethodHandle" ∧ y.cls ≠ "java/lang/invoke/VarHandle") ∧
  (∀ sig, parseMethodDescriptor y.desc = some sig → n = sig.parameters.length) ∧ (Cond.methodLink own index y).before args s = true ∧ (Cond.instanceMethod y).before args s = true ∧ (Cond.selects C y y).before args s = true
theorem vx_cwVW {own C : String} {index maxL mc ms : Nat} {y : MethodName} {bytes : ByteArray} {ret : Option FieldType} {hh : List (Nat × Nat × Nat × Nat)} {Ts ws ws' : List Cond} {rm : Room} (n : Nat) (ht : ∀ w ∈ Ts, w.before args s = true) (hT : GoodIn Ts (wsV own index C y ws)) (hw : ws = Cond.codeWith y bytes maxL ret hh :: ws') (hrc : rm.cells = mc) (hrs : rm.slots = ms)
    (hd : y.cls = C ∧ y.cls ≠ "java/lang/invoke/MethodHandle" ∧ y.cls ≠ "java/lang/invoke/VarHandle" ∧ (parseMethodDescriptor y.desc).map (fun d => d.parameters.length) = some n) (hR : rm.frames + 1 ≤ R.frames ∧ 8 + (maxL + 11) + rm.locals ≤ R.locals) :
    vx_CVW R s args own C index y bytes maxL ret hh ws rm mc ms n := by
  obtain ⟨hC, hd⟩ := hd
  subst hC
  have ok : ∀ w ∈ wsV own index y.cls y ws, w.before args s = true := fun w h => ht w (hT w h).1
  have hG : GoodIn Ts ws := fun w h => hT w (by unfold wsV; exact List.mem_append_right _ h)
  have hc : Cond.codeWith y bytes maxL ret hh ∈ ws := by rw [hw]; exact List.mem_cons_self
  refine ⟨⟨hrc, hrs, hR.1, hR.2, pay_in ht hG, hc⟩, ht _ (hG _ hc).1, ok _ (by simp [wsV]), ⟨hd.1, hd.2.1⟩, fun sig h => ?_, ok _ (by simp [wsV]), ok _ (by simp [wsV]), ok _ (by simp [wsV])⟩
  have h2 := hd.2.2
  rw [h] at h2
  exact (Option.some.inj h2).symm
theorem vx_runVW {y : MethodName} {bytes cc : ByteArray} {maxL nL mc ms n index : Nat} {ret : Option FieldType} {hh : List (Nat × Nat × Nat × Nat)} {ws : List Cond} {rm : Room} {Pc : Array Value → State → Prop} {Qc : Array Value → State → Outcome → State → Prop} {free : Addr → Prop} {Ts : List Cond} {own C : String} {b : Addr} {As rest : List Value} {g : JFrame}
    (S : CallFix p m c cc nL s args Ts own) (hM : Met l y ws rm Pc Qc mc ms free) (cw : vx_CVW R s args own C index y bytes maxL ret hh ws rm mc ms n) (hp : PreV s H C b Pc As)
    (hg : g.method = m) (hn : As.length = n) (hsize : g.locals.size = nL) (hstack : g.stack = As.reverse ++ .ref b :: rest) (hW : 2 * g.monitorRoom + (rest.map fun v => v.category).sum ≤ 8) (hdg : decode cc g.pc = .ok (.invokevirtual index, 3)) (hf : cells + mc ≤ R.cells ∧ slots + ms ≤ R.slots) :
    va_Run p l e R s m args below meth c H locs cells slots mc ms g rest (Qc (Value.ref b :: As).toArray) free := by
  obtain ⟨⟨hrc, hrs, hfr, hlo, hws, hcw⟩, hcode, hini, hy, hlen, hl, hin, hse⟩ := cw
  have hK : Back l R p e below s args y 3 8 (PreOf R mc ms Pc) (PostOf Qc mc ms free) := va_backW (hh := hh) (bytes := bytes) (maxL := maxL) (ret := ret) hM hp.1 hrc hrs hfr hlo hws hcw (fun a' U hW => word_at hW (Or.inl (by first | rfl | simp [Cond.onTables, Cond.keeps, Cond.steady])) hini)
  obtain ⟨hx, hb, hml, ho, -⟩ := S
  obtain ⟨-, ⟨cellB, hcB, hoB, hclB⟩, hPc⟩ := hp
  intro T hT X
  obtain ⟨v, vm₁, ⟨U', l2, c2, s2⟩, hW₁, X', ⟨g', mk, t, L, e1, e2, hq, h1, hL, h2, h3⟩, st⟩ := vx_callVW X hx (C := C) (hh := hh) (bytes := bytes) (maxL := maxL) (ret := ret) ho hl hin hse hcode hy hK (by rw [hT]; exact hcB) hoB hclB hg (hsize.trans hml.symm) (argsL := As) (rest := rest) (fun sig h => hn.trans (hlen sig h)) hstack hW (by rw [hb]; exact hdg)
    (fun vm₁ hW₁ => ⟨hf.1, hf.2, hPc (T.setVm vm₁) hT hW₁⟩)
  dsimp only [Pt.U, Pt.locs, Pt.cells, Pt.slots] at X' e1 e2 h1 h2 h3 st
  subst h1; subst h2; subst h3
  exact ⟨v, (T.setVm vm₁).calling g' mk (Value.ref b :: As).toArray, t, U', L, hT, X', hL, e1, e2, hq, st⟩
section
variable {y : MethodName} {bytes cc : ByteArray} {maxL nL mc ms n index : Nat} {ret : Option FieldType} {ws : List Cond} {rm : Room} {Pc : Array Value → State → Prop} {Qc : Array Value → State → Outcome → State → Prop} {XC : String → State → State → Prop} {free : Addr → Prop} {Ts : List Cond} {own C : String} {b : Addr} {As rest : List Value} {g : JFrame}
theorem vx_runVX {hh : List (Nat × Nat × Nat × Nat)} (S : CallFix p m c cc nL s args Ts own) (hM : vx_Met l y ws rm Pc Qc XC mc ms free) (cw : vx_CVW R s args own C index y bytes maxL ret hh ws rm mc ms n) (hp : PreV s H C b Pc As)
    (hg : g.method = m) (hn : As.length = n) (hsize : g.locals.size = nL) (hstack : g.stack = As.reverse ++ .ref b :: rest) (hW : 2 * g.monitorRoom + (rest.map fun v => v.category).sum ≤ 8) (hdg : decode cc g.pc = .ok (.invokevirtual index, 3)) (hf : cells + mc ≤ R.cells ∧ slots + ms ≤ R.slots) :
    vx_Run p l e R s m args below meth c H locs cells slots mc ms g rest (Qc (Value.ref b :: As).toArray) XC free := by
  obtain ⟨⟨hrc, hrs, hfr, hlo, hws, hcw⟩, hcode, hini, hy, hlen, hl, hin, hse⟩ := cw
  have hK : vx_Back l R p e below s args y 3 8 (PreOf R mc ms Pc) (PostOf Qc mc ms free) (vx_Post XC mc ms free) := vx_backW (hh := hh) (bytes := bytes) (maxL := maxL) (ret := ret) hM hp.1 hrc hrs hfr hlo hws hcw (fun a' U hW => word_at hW (Or.inl (by first | rfl | simp [Cond.onTables, Cond.keeps, Cond.steady])) hini)
  obtain ⟨hx, hb, hml, ho, -⟩ := S
  obtain ⟨-, ⟨cellB, hcB, hoB, hclB⟩, hPc⟩ := hp
  intro T hT X
  rcases vx_callVX X hx (C := C) (hh := hh) (bytes := bytes) (maxL := maxL) (ret := ret) ho hl hin hse hcode hy hK (by rw [hT]; exact hcB) hoB hclB hg (hsize.trans hml.symm) (argsL := As) (rest := rest) (fun sig h => hn.trans (hlen sig h)) hstack hW (by rw [hb]; exact hdg)
    (fun vm₁ hW₁ => ⟨hf.1, hf.2, hPc (T.setVm vm₁) hT hW₁⟩) with ⟨v, vm₁, ⟨U', l2, c2, s2⟩, hW₁, X', ⟨g', mk, t, L, e1, e2, hq, h1, hL, h2, h3⟩, st⟩ | ⟨q, vm₁, ⟨U', l2, c2, s2⟩, hW₁, X', ⟨g', mk, t, L, E, ce, e1, e2, hq, hce, hcv, hcl, h1, hL, h2, h3⟩, st⟩
  · dsimp only [Pt.U, Pt.locs, Pt.cells, Pt.slots] at X' e1 e2 h1 h2 h3 st
    subst h1; subst h2; subst h3
    exact Or.inl ⟨v, (T.setVm vm₁).calling g' mk (Value.ref b :: As).toArray, t, U', L, hT, X', hL, e1, e2, hq, st⟩
  · dsimp only [Pt.U, Pt.locs, Pt.cells, Pt.slots] at X' e1 e2 h1 h2 h3 st hcl
    subst h1; subst h2; subst h3
    exact Or.inr ⟨q, (T.setVm vm₁).calling g' mk (Value.ref b :: As).toArray, t, U', L, E, ce, hT, X', hL, e1, e2, hq, hce, hcv, vx_cls hW₁ hcl, st⟩
theorem vx_runSX {hh : List (Nat × Nat × Nat × Nat)} (S : CallFix p m c cc nL s args Ts own) (hM : vx_Met l y ws rm Pc Qc XC mc ms free) (cw : vx_CSW R s args own index y bytes maxL ret hh ws rm mc ms n) (hp : PreS s H Pc As)
    (hg : g.method = m) (hn : As.length = n) (hsize : g.locals.size = nL) (hstack : g.stack = As.reverse ++ rest) (hW : 2 * g.monitorRoom + (rest.map fun v => v.category).sum ≤ 8) (hdg : decode cc g.pc = .ok (.invokestatic index, 3)) (hf : cells + mc ≤ R.cells ∧ slots + ms ≤ R.slots) :
    vx_Run p l e R s m args below meth c H locs cells slots mc ms g rest (Qc As.toArray) XC free := by
  obtain ⟨⟨hrc, hrs, hfr, hlo, hws, hcw⟩, hcode, hini, hy, hlen, hl, hstt⟩ := cw
  have hK : vx_Back l R p e below s args y 3 8 (PreOf R mc ms Pc) (PostOf Qc mc ms free) (vx_Post XC mc ms free) := vx_backW (hh := hh) (bytes := bytes) (maxL := maxL) (ret := ret) hM hp.1 hrc hrs hfr hlo hws hcw (fun a' U hW => word_at hW (Or.inl (by first | rfl | simp [Cond.onTables, Cond.keeps, Cond.steady])) hini)
  obtain ⟨hx, hb, hml, ho, -⟩ := S
  intro T hT X
  rcases vx_callSX X hx (hh := hh) (bytes := bytes) (maxL := maxL) (ret := ret) ho hl hstt hini hcode hy hK hg (hsize.trans hml.symm) (argsL := As) (rest := rest) (fun sig h => hn.trans (hlen sig h)) hstack hW (by rw [hb]; exact hdg)
    (fun vm₁ hW₁ => ⟨hf.1, hf.2, hp.2 (T.setVm vm₁) hT hW₁⟩) with ⟨v, vm₁, ⟨U', l2, c2, s2⟩, hW₁, X', ⟨g', mk, t, L, e1, e2, hq, h1, hL, h2, h3⟩, st⟩ | ⟨q, vm₁, ⟨U', l2, c2, s2⟩, hW₁, X', ⟨g', mk, t, L, E, ce, e1, e2, hq, hce, hcv, hcl, h1, hL, h2, h3⟩, st⟩
  · dsimp only [Pt.U, Pt.locs, Pt.cells, Pt.slots] at X' e1 e2 h1 h2 h3 st
    subst h1; subst h2; subst h3
    exact Or.inl ⟨v, (T.setVm vm₁).calling g' mk As.toArray, t, U', L, hT, X', hL, e1, e2, hq, st⟩
  · dsimp only [Pt.U, Pt.locs, Pt.cells, Pt.slots] at X' e1 e2 h1 h2 h3 st hcl
    subst h1; subst h2; subst h3
    exact Or.inr ⟨q, (T.setVm vm₁).calling g' mk As.toArray, t, U', L, E, ce, hT, X', hL, e1, e2, hq, hce, hcv, vx_cls hW₁ hcl, st⟩
end
end VXH
theorem vx_ofWH {l : Launch} {y : MethodName} {ws ws' : List Cond} {rm : Room} {Pc : Array Value → State → Prop} {Qc : Array Value → State → Outcome → State → Prop} {XC : String → State → State → Prop} {mc ms : Nat} {free : Addr → Prop} {cc : ByteArray} {maxL : Nat} {ret : Option FieldType} {hh : List (Nat × Nat × Nat × Nat)}
    (hy : plainName y.cls = true) (hw : ws = Cond.codeWith y cc maxL ret hh :: ws')
    (body : ∀ p e s m args below meth c s₁, BodyLoose p l y (headSpec ws rm) cc maxL ret e s m args below meth c s₁ → c.maxLocals = maxL → Pc args s →
      W p l e (headSpec ws rm).room s m args below meth c s.heap [] 0 0 (vx_MQ below Qc XC args s mc ms free) (entryFrame m args maxL)) : vx_Met l y ws rm Pc Qc XC mc ms free := by
  refine MetFree.of_bodyS (code := cc) (maxLocals := maxL) (ret := ret) hy ?_ ?_
  · intro args s m h hn
    obtain ⟨m9, meth, c, hn9, h1, h2, h3, h4, -, h5, h6, -⟩ := Cond.codeWith_spec (atoms_spec (ws := ws) h _ (by rw [hw]; exact List.mem_cons_self))
    cases hn.symm.trans hn9
    exact ⟨meth, c, h1, h2, h3, h4, h5, h6⟩
  · intro p e s m args below meth c s₁ B hml hP _
    have hh0 : s₁.heap = s.heap := by rw [B.state]; rfl
    obtain ⟨t, a1, o, b1, b2, b3⟩ := body p e s m args below meth c s₁ B hml hP s₁ hh0 (Stand.of_body B)
    exact ⟨t, o, a1, b1, b2, b3⟩
/-! ===== END ===== -/
end
section
/-! ===== BEGIN printed: names, fields, word lists, decode rows ===== -/
def RX0 : String := "LampRoom$Alarms"
def TX0 : u_T := fun k => match k with
  | _ => ("LampRoom$Alarms", "began", "[I", true)
def tyX0 : Nat → FieldType := fun k => match k with
  | _ => .array .int
abbrev wsX00 : List Cond := u_ws RX0 TX0 1
theorem nmX0 : ∀ a, a < 1 → ∀ b, b < 1 → a ≠ b → (TX0 a).2.1 ≠ (TX0 b).2.1 := by decide +kernel
theorem tyX0_ok : ∀ k, k < 1 → parseFieldDescriptor (TX0 k).2.2.1 = some (tyX0 k) := by decide +kernel
abbrev cX0_init : ByteArray := prog_2_method_1_code
def yX0_init : MethodName := ⟨RX0, "<init>", "()V"⟩
abbrev cX0_begin : ByteArray := prog_2_method_2_code
def yX0_begin : MethodName := ⟨RX0, "begin", "(III)Z"⟩
abbrev cX0_end : ByteArray := prog_2_method_3_code
def yX0_end : MethodName := ⟨RX0, "end", "(I)V"⟩
abbrev cX0_lastingAt : ByteArray := prog_2_method_4_code
def yX0_lastingAt : MethodName := ⟨RX0, "lastingAt", "(I)I"⟩
abbrev cX0_countAhead : ByteArray := prog_2_method_5_code
def yX0_countAhead : MethodName := ⟨RX0, "countAhead", "(I)I"⟩
abbrev cX0_isAhead : ByteArray := prog_2_method_6_code
def yX0_isAhead : MethodName := ⟨RX0, "isAhead", "(II)Z"⟩
def RX1 : String := "LampRoom$Lamps"
def TX1 : u_T := fun k => match k with
  | 0 => ("LampRoom$Lamps", "kinds", "[I", true)
  | 1 => ("LampRoom$Lamps", "places", "[I", true)
  | 2 => ("LampRoom$Lamps", "turns", "[I", true)
  | 3 => ("LampRoom$Lamps", "leaks", "[Z", true)
  | 4 => ("LampRoom$Lamps", "charges", "[D", true)
  | 5 => ("LampRoom$Lamps", "capacities", "[D", true)
  | _ => ("LampRoom$Lamps", "count", "I", false)
def tyX1 : Nat → FieldType := fun k => match k with
  | 0 => .array .int
  | 1 => .array .int
  | 2 => .array .int
  | 3 => .array .boolean
  | 4 => .array .double
  | 5 => .array .double
  | _ => .int
abbrev wsX10 : List Cond := u_ws RX1 TX1 7
theorem nmX1 : ∀ a, a < 7 → ∀ b, b < 7 → a ≠ b → (TX1 a).2.1 ≠ (TX1 b).2.1 := by decide +kernel
theorem tyX1_ok : ∀ k, k < 7 → parseFieldDescriptor (TX1 k).2.2.1 = some (tyX1 k) := by decide +kernel
abbrev cX1_init : ByteArray := prog_3_method_1_code
def yX1_init : MethodName := ⟨RX1, "<init>", "()V"⟩
abbrev cX1_size : ByteArray := prog_3_method_2_code
def yX1_size : MethodName := ⟨RX1, "size", "()I"⟩
abbrev cX1_kindAt : ByteArray := prog_3_method_3_code
def yX1_kindAt : MethodName := ⟨RX1, "kindAt", "(I)I"⟩
abbrev cX1_placeAt : ByteArray := prog_3_method_4_code
def yX1_placeAt : MethodName := ⟨RX1, "placeAt", "(I)I"⟩
abbrev cX1_turnsAt : ByteArray := prog_3_method_5_code
def yX1_turnsAt : MethodName := ⟨RX1, "turnsAt", "(I)I"⟩
abbrev cX1_chargeAt : ByteArray := prog_3_method_6_code
def yX1_chargeAt : MethodName := ⟨RX1, "chargeAt", "(I)D"⟩
abbrev cX1_capacityAt : ByteArray := prog_3_method_7_code
def yX1_capacityAt : MethodName := ⟨RX1, "capacityAt", "(I)D"⟩
abbrev cX1_hangNew : ByteArray := prog_3_method_8_code
def yX1_hangNew : MethodName := ⟨RX1, "hangNew", "(I)I"⟩
abbrev cX1_moveTo : ByteArray := prog_3_method_9_code
def yX1_moveTo : MethodName := ⟨RX1, "moveTo", "(II)V"⟩
abbrev cX1_endLeak : ByteArray := prog_3_method_10_code
def yX1_endLeak : MethodName := ⟨RX1, "endLeak", "(I)V"⟩
abbrev cX1_takeBack : ByteArray := prog_3_method_11_code
def yX1_takeBack : MethodName := ⟨RX1, "takeBack", "(I)V"⟩
abbrev cX1_faultAt : ByteArray := prog_3_method_12_code
def yX1_faultAt : MethodName := ⟨RX1, "faultAt", "(I)I"⟩
abbrev cX1_bestFor : ByteArray := prog_3_method_13_code
def yX1_bestFor : MethodName := ⟨RX1, "bestFor", "(I)I"⟩
abbrev cX1_fullestOf : ByteArray := prog_3_method_14_code
def yX1_fullestOf : MethodName := ⟨RX1, "fullestOf", "(I)I"⟩
abbrev cX1_countIssuable : ByteArray := prog_3_method_15_code
def yX1_countIssuable : MethodName := ⟨RX1, "countIssuable", "(I)I"⟩
abbrev cX1_isIssuable : ByteArray := prog_3_method_16_code
def yX1_isIssuable : MethodName := ⟨RX1, "isIssuable", "(II)Z"⟩
abbrev cX1_burn : ByteArray := prog_3_method_17_code
def yX1_burn : MethodName := ⟨RX1, "burn", "()V"⟩
abbrev cX1_load : ByteArray := prog_3_method_18_code
def yX1_load : MethodName := ⟨RX1, "load", "()V"⟩
abbrev cX1_hundredthsOnRack : ByteArray := prog_3_method_19_code
def yX1_hundredthsOnRack : MethodName := ⟨RX1, "hundredthsOnRack", "()I"⟩
abbrev cX1_newCapacity : ByteArray := prog_3_method_20_code
def yX1_newCapacity : MethodName := ⟨RX1, "newCapacity", "(I)D"⟩
def RX2 : String := "LampRoom$Tallies"
def TX2 : u_T := fun k => match k with
  | 0 => ("LampRoom$Tallies", "kinds", "[I", true)
  | 1 => ("LampRoom$Tallies", "held", "[I", true)
  | 2 => ("LampRoom$Tallies", "hours", "[I", true)
  | 3 => ("LampRoom$Tallies", "orders", "[I", true)
  | 4 => ("LampRoom$Tallies", "count", "I", false)
  | _ => ("LampRoom$Tallies", "issued", "I", false)
def tyX2 : Nat → FieldType := fun k => match k with
  | 0 => .array .int
  | 1 => .array .int
  | 2 => .array .int
  | 3 => .array .int
  | 4 => .int
  | _ => .int
abbrev wsX20 : List Cond := u_ws RX2 TX2 6
theorem nmX2 : ∀ a, a < 6 → ∀ b, b < 6 → a ≠ b → (TX2 a).2.1 ≠ (TX2 b).2.1 := by decide +kernel
theorem tyX2_ok : ∀ k, k < 6 → parseFieldDescriptor (TX2 k).2.2.1 = some (tyX2 k) := by decide +kernel
abbrev cX2_init : ByteArray := prog_4_method_1_code
def yX2_init : MethodName := ⟨RX2, "<init>", "()V"⟩
abbrev cX2_size : ByteArray := prog_4_method_2_code
def yX2_size : MethodName := ⟨RX2, "size", "()I"⟩
abbrev cX2_kindAt : ByteArray := prog_4_method_3_code
def yX2_kindAt : MethodName := ⟨RX2, "kindAt", "(I)I"⟩
abbrev cX2_lampHeld : ByteArray := prog_4_method_4_code
def yX2_lampHeld : MethodName := ⟨RX2, "lampHeld", "(I)I"⟩
abbrev cX2_hungAt : ByteArray := prog_4_method_5_code
def yX2_hungAt : MethodName := ⟨RX2, "hungAt", "(I)I"⟩
abbrev cX2_enter : ByteArray := prog_4_method_6_code
def yX2_enter : MethodName := ⟨RX2, "enter", "(I)I"⟩
abbrev cX2_hangUp : ByteArray := prog_4_method_7_code
def yX2_hangUp : MethodName := ⟨RX2, "hangUp", "(III)V"⟩
abbrev cX2_takeDown : ByteArray := prog_4_method_8_code
def yX2_takeDown : MethodName := ⟨RX2, "takeDown", "(I)V"⟩
abbrev cX2_onBoard : ByteArray := prog_4_method_9_code
def yX2_onBoard : MethodName := ⟨RX2, "onBoard", "()I"⟩
abbrev cX2_onBoardAt : ByteArray := prog_4_method_10_code
def yX2_onBoardAt : MethodName := ⟨RX2, "onBoardAt", "(I)I"⟩
abbrev cX2_countAhead : ByteArray := prog_4_method_11_code
def yX2_countAhead : MethodName := ⟨RX2, "countAhead", "(I)I"⟩
def RX3 : String := "LampRoom"
def TX3 : u_T := fun k => match k with
  | 0 => ("LampRoom", "lamps", "LLampRoom$Lamps;", true)
  | 1 => ("LampRoom", "tallies", "LLampRoom$Tallies;", true)
  | 2 => ("LampRoom", "alarms", "LLampRoom$Alarms;", true)
  | _ => ("LampRoom", "clock", "I", false)
def tyX3 : Nat → FieldType := fun k => match k with
  | 0 => .object "LampRoom$Lamps"
  | 1 => .object "LampRoom$Tallies"
  | 2 => .object "LampRoom$Alarms"
  | _ => .int
abbrev wsX30 : List Cond := u_ws RX3 TX3 4
theorem nmX3 : ∀ a, a < 4 → ∀ b, b < 4 → a ≠ b → (TX3 a).2.1 ≠ (TX3 b).2.1 := by decide +kernel
theorem tyX3_ok : ∀ k, k < 4 → parseFieldDescriptor (TX3 k).2.2.1 = some (tyX3 k) := by decide +kernel
abbrev cX3_init : ByteArray := prog_1_method_1_code
def yX3_init : MethodName := ⟨RX3, "<init>", "()V"⟩
abbrev cX3_addLamp : ByteArray := prog_1_method_2_code
def yX3_addLamp : MethodName := ⟨RX3, "addLamp", "(I)I"⟩
abbrev cX3_addMiner : ByteArray := prog_1_method_3_code
def yX3_addMiner : MethodName := ⟨RX3, "addMiner", "(I)I"⟩
abbrev cX3_issue : ByteArray := prog_1_method_4_code
def yX3_issue : MethodName := ⟨RX3, "issue", "(I)I"⟩
abbrev cX3_back : ByteArray := prog_1_method_5_code
def yX3_back : MethodName := ⟨RX3, "back", "(I)I"⟩
abbrev cX3_test : ByteArray := prog_1_method_6_code
def yX3_test : MethodName := ⟨RX3, "test", "(I)I"⟩
abbrev cX3_mend : ByteArray := prog_1_method_7_code
def yX3_mend : MethodName := ⟨RX3, "mend", "(I)Z"⟩
abbrev cX3_hours : ByteArray := prog_1_method_8_code
def yX3_hours : MethodName := ⟨RX3, "hours", "(I)I"⟩
abbrev cX3_below : ByteArray := prog_1_method_9_code
def yX3_below : MethodName := ⟨RX3, "below", "()I"⟩
abbrev cX3_board : ByteArray := prog_1_method_10_code
def yX3_board : MethodName := ⟨RX3, "board", "(I)I"⟩
abbrev cX3_lampOf : ByteArray := prog_1_method_11_code
def yX3_lampOf : MethodName := ⟨RX3, "lampOf", "(I)I"⟩
abbrev cX3_hoursBelow : ByteArray := prog_1_method_12_code
def yX3_hoursBelow : MethodName := ⟨RX3, "hoursBelow", "(I)I"⟩
abbrev cX3_placeOf : ByteArray := prog_1_method_13_code
def yX3_placeOf : MethodName := ⟨RX3, "placeOf", "(I)I"⟩
abbrev cX3_chargeOf : ByteArray := prog_1_method_14_code
def yX3_chargeOf : MethodName := ⟨RX3, "chargeOf", "(I)D"⟩
abbrev cX3_capacityOf : ByteArray := prog_1_method_15_code
def yX3_capacityOf : MethodName := ⟨RX3, "capacityOf", "(I)D"⟩
abbrev cX3_turnsOf : ByteArray := prog_1_method_16_code
def yX3_turnsOf : MethodName := ⟨RX3, "turnsOf", "(I)I"⟩
abbrev cX3_ready : ByteArray := prog_1_method_17_code
def yX3_ready : MethodName := ⟨RX3, "ready", "(I)I"⟩
abbrev cX3_spares : ByteArray := prog_1_method_18_code
def yX3_spares : MethodName := ⟨RX3, "spares", "()I"⟩
abbrev cX3_alarm : ByteArray := prog_1_method_19_code
def yX3_alarm : MethodName := ⟨RX3, "alarm", "(I)I"⟩
abbrev cX3_lightLeft : ByteArray := prog_1_method_20_code
def yX3_lightLeft : MethodName := ⟨RX3, "lightLeft", "(I)I"⟩
abbrev cX3_rackCharge : ByteArray := prog_1_method_21_code
def yX3_rackCharge : MethodName := ⟨RX3, "rackCharge", "()I"⟩
abbrev cX3_checkKind : ByteArray := prog_1_method_22_code
def yX3_checkKind : MethodName := ⟨RX3, "checkKind", "(I)V"⟩
abbrev cX3_checkMiner : ByteArray := prog_1_method_23_code
def yX3_checkMiner : MethodName := ⟨RX3, "checkMiner", "(I)V"⟩
abbrev cX3_checkLamp : ByteArray := prog_1_method_24_code
def yX3_checkLamp : MethodName := ⟨RX3, "checkLamp", "(I)V"⟩
abbrev cX3_passHour : ByteArray := prog_1_method_25_code
def yX3_passHour : MethodName := ⟨RX3, "passHour", "()I"⟩
abbrev cX3_beginAlarms : ByteArray := prog_1_method_26_code
def yX3_beginAlarms : MethodName := ⟨RX3, "beginAlarms", "(II)I"⟩
def RX4 : String := "LampRoomModel"
def TX4 : u_T := fun k => match k with
  | 0 => ("LampRoomModel", "thrown", "I", false)
  | 1 => ("LampRoomModel", "hour", "I", false)
  | 2 => ("LampRoomModel", "lamps", "I", false)
  | 3 => ("LampRoomModel", "kindOf", "[I", true)
  | 4 => ("LampRoomModel", "place", "[I", true)
  | 5 => ("LampRoomModel", "turns", "[I", true)
  | 6 => ("LampRoomModel", "leaks", "[Z", true)
  | 7 => ("LampRoomModel", "charge", "[D", true)
  | 8 => ("LampRoomModel", "capacity", "[D", true)
  | 9 => ("LampRoomModel", "miners", "I", false)
  | 10 => ("LampRoomModel", "wants", "[I", true)
  | 11 => ("LampRoomModel", "lamp", "[I", true)
  | 12 => ("LampRoomModel", "since", "[I", true)
  | 13 => ("LampRoomModel", "below", "I", false)
  | 14 => ("LampRoomModel", "board", "[I", true)
  | 15 => ("LampRoomModel", "alarms", "I", false)
  | _ => ("LampRoomModel", "alarm", "[I", true)
def tyX4 : Nat → FieldType := fun k => match k with
  | 0 => .int
  | 1 => .int
  | 2 => .int
  | 3 => .array .int
  | 4 => .array .int
  | 5 => .array .int
  | 6 => .array .boolean
  | 7 => .array .double
  | 8 => .array .double
  | 9 => .int
  | 10 => .array .int
  | 11 => .array .int
  | 12 => .array .int
  | 13 => .int
  | 14 => .array .int
  | 15 => .int
  | _ => .array .int
abbrev wsX40 : List Cond := u_ws RX4 TX4 17
theorem nmX4 : ∀ a, a < 17 → ∀ b, b < 17 → a ≠ b → (TX4 a).2.1 ≠ (TX4 b).2.1 := by decide +kernel
theorem tyX4_ok : ∀ k, k < 17 → parseFieldDescriptor (TX4 k).2.2.1 = some (tyX4 k) := by decide +kernel
abbrev cX4_init : ByteArray := prog_6_method_1_code
def yX4_init : MethodName := ⟨RX4, "<init>", "()V"⟩
abbrev cX4_thrown : ByteArray := prog_6_method_2_code
def yX4_thrown : MethodName := ⟨RX4, "thrown", "()I"⟩
abbrev cX4_in : ByteArray := prog_6_method_3_code
def yX4_in : MethodName := ⟨RX4, "in", "(III)Z"⟩
abbrev cX4_isLamp : ByteArray := prog_6_method_4_code
def yX4_isLamp : MethodName := ⟨RX4, "isLamp", "(I)Z"⟩
abbrev cX4_isMiner : ByteArray := prog_6_method_5_code
def yX4_isMiner : MethodName := ⟨RX4, "isMiner", "(I)Z"⟩
abbrev cX4_full : ByteArray := prog_6_method_6_code
def yX4_full : MethodName := ⟨RX4, "full", "(I)D"⟩
abbrev cX4_addLamp : ByteArray := prog_6_method_7_code
def yX4_addLamp : MethodName := ⟨RX4, "addLamp", "(I)I"⟩
abbrev cX4_addMiner : ByteArray := prog_6_method_8_code
def yX4_addMiner : MethodName := ⟨RX4, "addMiner", "(I)I"⟩
abbrev cX4_isReady : ByteArray := prog_6_method_9_code
def yX4_isReady : MethodName := ⟨RX4, "isReady", "(I)Z"⟩
abbrev cX4_lampFor : ByteArray := prog_6_method_10_code
def yX4_lampFor : MethodName := ⟨RX4, "lampFor", "(I)I"⟩
abbrev cX4_issue : ByteArray := prog_6_method_11_code
def yX4_issue : MethodName := ⟨RX4, "issue", "(I)I"⟩
abbrev cX4_comesOff : ByteArray := prog_6_method_12_code
def yX4_comesOff : MethodName := ⟨RX4, "comesOff", "(I)V"⟩
abbrev cX4_back : ByteArray := prog_6_method_13_code
def yX4_back : MethodName := ⟨RX4, "back", "(I)I"⟩
abbrev cX4_isWeak : ByteArray := prog_6_method_14_code
def yX4_isWeak : MethodName := ⟨RX4, "isWeak", "(I)Z"⟩
abbrev cX4_test : ByteArray := prog_6_method_15_code
def yX4_test : MethodName := ⟨RX4, "test", "(I)I"⟩
abbrev cX4_mend : ByteArray := prog_6_method_16_code
def yX4_mend : MethodName := ⟨RX4, "mend", "(I)Z"⟩
abbrev cX4_isAlarmed : ByteArray := prog_6_method_17_code
def yX4_isAlarmed : MethodName := ⟨RX4, "isAlarmed", "(I)Z"⟩
abbrev cX4_begins : ByteArray := prog_6_method_18_code
def yX4_begins : MethodName := ⟨RX4, "begins", "(IZ)I"⟩
abbrev cX4_goesBy : ByteArray := prog_6_method_19_code
def yX4_goesBy : MethodName := ⟨RX4, "goesBy", "()I"⟩
abbrev cX4_hours : ByteArray := prog_6_method_20_code
def yX4_hours : MethodName := ⟨RX4, "hours", "(I)I"⟩
abbrev cX4_below : ByteArray := prog_6_method_21_code
def yX4_below : MethodName := ⟨RX4, "below", "()I"⟩
abbrev cX4_board : ByteArray := prog_6_method_22_code
def yX4_board : MethodName := ⟨RX4, "board", "(I)I"⟩
abbrev cX4_lampOf : ByteArray := prog_6_method_23_code
def yX4_lampOf : MethodName := ⟨RX4, "lampOf", "(I)I"⟩
abbrev cX4_hoursBelow : ByteArray := prog_6_method_24_code
def yX4_hoursBelow : MethodName := ⟨RX4, "hoursBelow", "(I)I"⟩
abbrev cX4_placeOf : ByteArray := prog_6_method_25_code
def yX4_placeOf : MethodName := ⟨RX4, "placeOf", "(I)I"⟩
abbrev cX4_chargeOf : ByteArray := prog_6_method_26_code
def yX4_chargeOf : MethodName := ⟨RX4, "chargeOf", "(I)D"⟩
abbrev cX4_capacityOf : ByteArray := prog_6_method_27_code
def yX4_capacityOf : MethodName := ⟨RX4, "capacityOf", "(I)D"⟩
abbrev cX4_turnsOf : ByteArray := prog_6_method_28_code
def yX4_turnsOf : MethodName := ⟨RX4, "turnsOf", "(I)I"⟩
abbrev cX4_ready : ByteArray := prog_6_method_29_code
def yX4_ready : MethodName := ⟨RX4, "ready", "(I)I"⟩
abbrev cX4_spares : ByteArray := prog_6_method_30_code
def yX4_spares : MethodName := ⟨RX4, "spares", "()I"⟩
abbrev cX4_alarm : ByteArray := prog_6_method_31_code
def yX4_alarm : MethodName := ⟨RX4, "alarm", "(I)I"⟩
abbrev cX4_lightLeft : ByteArray := prog_6_method_32_code
def yX4_lightLeft : MethodName := ⟨RX4, "lightLeft", "(I)I"⟩
abbrev cX4_rackCharge : ByteArray := prog_6_method_33_code
def yX4_rackCharge : MethodName := ⟨RX4, "rackCharge", "()I"⟩
def RJ0 : String := "java/lang/String"
def TJ0 : u_T := fun k => match k with
  | _ => ("", "", "", false)
def tyJ0 : Nat → FieldType := fun k => match k with
  | _ => .int
abbrev wsJ00 : List Cond := u_ws RJ0 TJ0 0
theorem nmJ0 : ∀ a, a < 0 → ∀ b, b < 0 → a ≠ b → (TJ0 a).2.1 ≠ (TJ0 b).2.1 := by decide +kernel
theorem tyJ0_ok : ∀ k, k < 0 → parseFieldDescriptor (TJ0 k).2.2.1 = some (tyJ0 k) := by decide +kernel
def RL : String := "LampRoomLaw"
abbrev cL_addLamp : ByteArray := method_3_code
def yL_addLamp : MethodName := ⟨RL, "addLamp", "(LLampRoom;I[J)I"⟩
abbrev cL_addMiner : ByteArray := method_4_code
def yL_addMiner : MethodName := ⟨RL, "addMiner", "(LLampRoom;I[J)I"⟩
abbrev cL_issue : ByteArray := method_5_code
def yL_issue : MethodName := ⟨RL, "issue", "(LLampRoom;I[J)I"⟩
abbrev cL_back : ByteArray := method_6_code
def yL_back : MethodName := ⟨RL, "back", "(LLampRoom;I[J)I"⟩
abbrev cL_test : ByteArray := method_7_code
def yL_test : MethodName := ⟨RL, "test", "(LLampRoom;I[J)I"⟩
abbrev cL_mend : ByteArray := method_8_code
def yL_mend : MethodName := ⟨RL, "mend", "(LLampRoom;I[J)I"⟩
abbrev cL_hours : ByteArray := method_9_code
def yL_hours : MethodName := ⟨RL, "hours", "(LLampRoom;I[J)I"⟩
abbrev cL_lampOf : ByteArray := method_10_code
def yL_lampOf : MethodName := ⟨RL, "lampOf", "(LLampRoom;I[J)I"⟩
abbrev cL_hoursBelow : ByteArray := method_11_code
def yL_hoursBelow : MethodName := ⟨RL, "hoursBelow", "(LLampRoom;I[J)I"⟩
abbrev cL_placeOf : ByteArray := method_12_code
def yL_placeOf : MethodName := ⟨RL, "placeOf", "(LLampRoom;I[J)I"⟩
abbrev cL_chargeOf : ByteArray := method_13_code
def yL_chargeOf : MethodName := ⟨RL, "chargeOf", "(LLampRoom;I[D)I"⟩
abbrev cL_capacityOf : ByteArray := method_14_code
def yL_capacityOf : MethodName := ⟨RL, "capacityOf", "(LLampRoom;I[D)I"⟩
abbrev cL_turnsOf : ByteArray := method_15_code
def yL_turnsOf : MethodName := ⟨RL, "turnsOf", "(LLampRoom;I[J)I"⟩
abbrev cL_ready : ByteArray := method_16_code
def yL_ready : MethodName := ⟨RL, "ready", "(LLampRoom;I[J)I"⟩
abbrev cL_lightLeft : ByteArray := method_17_code
def yL_lightLeft : MethodName := ⟨RL, "lightLeft", "(LLampRoom;I[J)I"⟩
abbrev cL_law : ByteArray := code
def yL_law : MethodName := ⟨RL, "law", "([I)Z"⟩
def wsX0_init : List Cond := .code yX0_init cX0_init 1 none :: ([.methodLink RX0 3 objectInit, .instanceMethod objectInit, .code objectInit ⟨#[0xb1]⟩ 1 none, .arrayClass .int, .fieldLink RX0 9 "LampRoom$Alarms" "began" "[I"] ++ wsX00)
def wsX0_begin : List Cond := .code yX0_begin cX0_begin 5 (some .boolean) :: ([.fieldLink RX0 9 "LampRoom$Alarms" "began" "[I"] ++ wsX00)
def wsX0_end : List Cond := .code yX0_end cX0_end 2 none :: ([.fieldLink RX0 9 "LampRoom$Alarms" "began" "[I"] ++ wsX00)
def wsX0_isAhead : List Cond := .code yX0_isAhead cX0_isAhead 3 (some .boolean) :: ([.fieldLink RX0 9 "LampRoom$Alarms" "began" "[I"] ++ wsX00)
def wsX0_countAhead : List Cond := .code yX0_countAhead cX0_countAhead 4 (some .int) :: ([.fieldLink RX0 9 "LampRoom$Alarms" "began" "[I", .methodLink RX0 19 yX0_isAhead, .instanceMethod yX0_isAhead, .selects RX0 yX0_isAhead yX0_isAhead, .initialized RX0, .code yX0_isAhead cX0_isAhead 3 (some .boolean)] ++ wsX00)
def wsX0_lastingAt : List Cond := .code yX0_lastingAt cX0_lastingAt 3 (some .int) :: ([.fieldLink RX0 9 "LampRoom$Alarms" "began" "[I", .methodLink RX0 15 yX0_countAhead, .instanceMethod yX0_countAhead, .selects RX0 yX0_countAhead yX0_countAhead, .initialized RX0, .code yX0_countAhead cX0_countAhead 4 (some .int), .methodLink RX0 19 yX0_isAhead, .instanceMethod yX0_isAhead, .selects RX0 yX0_isAhead yX0_isAhead, .code yX0_isAhead cX0_isAhead 3 (some .boolean)] ++ wsX00)
def wsX1_init : List Cond := .code yX1_init cX1_init 1 none :: ([.methodLink RX1 3 objectInit, .instanceMethod objectInit, .code objectInit ⟨#[0xb1]⟩ 1 none, .arrayClass .int, .fieldLink RX1 9 "LampRoom$Lamps" "kinds" "[I", .fieldLink RX1 15 "LampRoom$Lamps" "places" "[I", .fieldLink RX1 18 "LampRoom$Lamps" "turns" "[I", .arrayClass .boolean, .fieldLink RX1 21 "LampRoom$Lamps" "leaks" "[Z", .arrayClass .double, .fieldLink RX1 25 "LampRoom$Lamps" "charges" "[D", .fieldLink RX1 29 "LampRoom$Lamps" "capacities" "[D", .fieldLink RX1 32 "LampRoom$Lamps" "count" "I"] ++ wsX10)
def wsX1_size : List Cond := .code yX1_size cX1_size 1 (some .int) :: ([.fieldLink RX1 32 "LampRoom$Lamps" "count" "I"] ++ wsX10)
def wsX1_kindAt : List Cond := .code yX1_kindAt cX1_kindAt 2 (some .int) :: ([.fieldLink RX1 9 "LampRoom$Lamps" "kinds" "[I"] ++ wsX10)
def wsX1_placeAt : List Cond := .code yX1_placeAt cX1_placeAt 2 (some .int) :: ([.fieldLink RX1 15 "LampRoom$Lamps" "places" "[I"] ++ wsX10)
def wsX1_turnsAt : List Cond := .code yX1_turnsAt cX1_turnsAt 2 (some .int) :: ([.fieldLink RX1 18 "LampRoom$Lamps" "turns" "[I"] ++ wsX10)
def wsX1_chargeAt : List Cond := .code yX1_chargeAt cX1_chargeAt 2 (some .double) :: ([.fieldLink RX1 25 "LampRoom$Lamps" "charges" "[D"] ++ wsX10)
def wsX1_capacityAt : List Cond := .code yX1_capacityAt cX1_capacityAt 2 (some .double) :: ([.fieldLink RX1 29 "LampRoom$Lamps" "capacities" "[D"] ++ wsX10)
def wsX1_newCapacity : List Cond := .code yX1_newCapacity cX1_newCapacity 1 (some .double) :: ([.constantDouble RX1 60 (4622945017495814144), .constantDouble RX1 62 (4625196817309499392), .constantDouble RX1 64 (4626322717216342016)])
def wsX1_hangNew : List Cond := .code yX1_hangNew cX1_hangNew 3 (some .int) :: ([.fieldLink RX1 32 "LampRoom$Lamps" "count" "I", .fieldLink RX1 9 "LampRoom$Lamps" "kinds" "[I", .fieldLink RX1 15 "LampRoom$Lamps" "places" "[I", .fieldLink RX1 29 "LampRoom$Lamps" "capacities" "[D", .fieldLink RX1 25 "LampRoom$Lamps" "charges" "[D", .methodLink RX1 36 yX1_newCapacity, .static yX1_newCapacity, .initialized RX1, .code yX1_newCapacity cX1_newCapacity 1 (some .double), .constantDouble RX1 60 (4622945017495814144), .constantDouble RX1 62 (4625196817309499392), .constantDouble RX1 64 (4626322717216342016)] ++ wsX10)
def wsX1_moveTo : List Cond := .code yX1_moveTo cX1_moveTo 3 none :: ([.fieldLink RX1 15 "LampRoom$Lamps" "places" "[I"] ++ wsX10)
def wsX1_endLeak : List Cond := .code yX1_endLeak cX1_endLeak 2 none :: ([.fieldLink RX1 21 "LampRoom$Lamps" "leaks" "[Z"] ++ wsX10)
def wsX1_takeBack : List Cond := .code yX1_takeBack cX1_takeBack 2 none :: ([.fieldLink RX1 15 "LampRoom$Lamps" "places" "[I", .fieldLink RX1 18 "LampRoom$Lamps" "turns" "[I", .fieldLink RX1 21 "LampRoom$Lamps" "leaks" "[Z", .fieldLink RX1 29 "LampRoom$Lamps" "capacities" "[D", .constantDouble RX1 40 (4606912202822375178), .fieldLink RX1 25 "LampRoom$Lamps" "charges" "[D"] ++ wsX10)
def wsX1_faultAt : List Cond := .code yX1_faultAt cX1_faultAt 2 (some .int) :: ([.fieldLink RX1 21 "LampRoom$Lamps" "leaks" "[Z", .fieldLink RX1 29 "LampRoom$Lamps" "capacities" "[D", .constantDouble RX1 42 (4604930618986332160), .fieldLink RX1 9 "LampRoom$Lamps" "kinds" "[I", .methodLink RX1 36 yX1_newCapacity, .static yX1_newCapacity, .initialized RX1, .code yX1_newCapacity cX1_newCapacity 1 (some .double), .constantDouble RX1 60 (4622945017495814144), .constantDouble RX1 62 (4625196817309499392), .constantDouble RX1 64 (4626322717216342016)] ++ wsX10)
def wsX1_isIssuable : List Cond := .code yX1_isIssuable cX1_isIssuable 3 (some .boolean) :: ([.fieldLink RX1 9 "LampRoom$Lamps" "kinds" "[I", .fieldLink RX1 15 "LampRoom$Lamps" "places" "[I", .fieldLink RX1 25 "LampRoom$Lamps" "charges" "[D", .constantDouble RX1 52 (4621256167635550208)] ++ wsX10)
def wsX1_fullestOf : List Cond := .code yX1_fullestOf cX1_fullestOf 4 (some .int) :: ([.fieldLink RX1 32 "LampRoom$Lamps" "count" "I", .fieldLink RX1 25 "LampRoom$Lamps" "charges" "[D", .methodLink RX1 48 yX1_isIssuable, .instanceMethod yX1_isIssuable, .selects RX1 yX1_isIssuable yX1_isIssuable, .initialized RX1, .code yX1_isIssuable cX1_isIssuable 3 (some .boolean), .fieldLink RX1 9 "LampRoom$Lamps" "kinds" "[I", .fieldLink RX1 15 "LampRoom$Lamps" "places" "[I", .constantDouble RX1 52 (4621256167635550208)] ++ wsX10)
def wsX1_bestFor : List Cond := .code yX1_bestFor cX1_bestFor 4 (some .int) :: ([.methodLink RX1 44 yX1_fullestOf, .instanceMethod yX1_fullestOf, .selects RX1 yX1_fullestOf yX1_fullestOf, .initialized RX1, .code yX1_fullestOf cX1_fullestOf 4 (some .int), .fieldLink RX1 32 "LampRoom$Lamps" "count" "I", .fieldLink RX1 25 "LampRoom$Lamps" "charges" "[D", .methodLink RX1 48 yX1_isIssuable, .instanceMethod yX1_isIssuable, .selects RX1 yX1_isIssuable yX1_isIssuable, .code yX1_isIssuable cX1_isIssuable 3 (some .boolean), .fieldLink RX1 9 "LampRoom$Lamps" "kinds" "[I", .fieldLink RX1 15 "LampRoom$Lamps" "places" "[I", .constantDouble RX1 52 (4621256167635550208)] ++ wsX10)
def wsX1_countIssuable : List Cond := .code yX1_countIssuable cX1_countIssuable 4 (some .int) :: ([.fieldLink RX1 32 "LampRoom$Lamps" "count" "I", .methodLink RX1 48 yX1_isIssuable, .instanceMethod yX1_isIssuable, .selects RX1 yX1_isIssuable yX1_isIssuable, .initialized RX1, .code yX1_isIssuable cX1_isIssuable 3 (some .boolean), .fieldLink RX1 9 "LampRoom$Lamps" "kinds" "[I", .fieldLink RX1 15 "LampRoom$Lamps" "places" "[I", .fieldLink RX1 25 "LampRoom$Lamps" "charges" "[D", .constantDouble RX1 52 (4621256167635550208)] ++ wsX10)
def wsX1_burn : List Cond := .code yX1_burn cX1_burn 4 none :: ([.fieldLink RX1 32 "LampRoom$Lamps" "count" "I", .fieldLink RX1 15 "LampRoom$Lamps" "places" "[I", .fieldLink RX1 21 "LampRoom$Lamps" "leaks" "[Z", .constantDouble RX1 54 (4609434218613702656), .fieldLink RX1 25 "LampRoom$Lamps" "charges" "[D"] ++ wsX10)
def wsX1_load : List Cond := .code yX1_load cX1_load 5 none :: ([.fieldLink RX1 32 "LampRoom$Lamps" "count" "I", .fieldLink RX1 15 "LampRoom$Lamps" "places" "[I", .fieldLink RX1 25 "LampRoom$Lamps" "charges" "[D", .fieldLink RX1 29 "LampRoom$Lamps" "capacities" "[D", .constantDouble RX1 56 (4612811918334230528)] ++ wsX10)
def wsX1_hundredthsOnRack : List Cond := .code yX1_hundredthsOnRack cX1_hundredthsOnRack 6 (some .int) :: ([.fieldLink RX1 32 "LampRoom$Lamps" "count" "I", .fieldLink RX1 15 "LampRoom$Lamps" "places" "[I", .fieldLink RX1 25 "LampRoom$Lamps" "charges" "[D", .fieldLink RX1 29 "LampRoom$Lamps" "capacities" "[D", .constantDouble RX1 58 (4636737291354636288)] ++ wsX10)
def wsX2_init : List Cond := .code yX2_init cX2_init 1 none :: ([.methodLink RX2 3 objectInit, .instanceMethod objectInit, .code objectInit ⟨#[0xb1]⟩ 1 none, .arrayClass .int, .fieldLink RX2 9 "LampRoom$Tallies" "kinds" "[I", .fieldLink RX2 15 "LampRoom$Tallies" "held" "[I", .fieldLink RX2 18 "LampRoom$Tallies" "hours" "[I", .fieldLink RX2 21 "LampRoom$Tallies" "orders" "[I", .fieldLink RX2 24 "LampRoom$Tallies" "count" "I", .fieldLink RX2 28 "LampRoom$Tallies" "issued" "I"] ++ wsX20)
def wsX2_size : List Cond := .code yX2_size cX2_size 1 (some .int) :: ([.fieldLink RX2 24 "LampRoom$Tallies" "count" "I"] ++ wsX20)
def wsX2_kindAt : List Cond := .code yX2_kindAt cX2_kindAt 2 (some .int) :: ([.fieldLink RX2 9 "LampRoom$Tallies" "kinds" "[I"] ++ wsX20)
def wsX2_lampHeld : List Cond := .code yX2_lampHeld cX2_lampHeld 2 (some .int) :: ([.fieldLink RX2 15 "LampRoom$Tallies" "held" "[I"] ++ wsX20)
def wsX2_hungAt : List Cond := .code yX2_hungAt cX2_hungAt 2 (some .int) :: ([.fieldLink RX2 18 "LampRoom$Tallies" "hours" "[I"] ++ wsX20)
def wsX2_enter : List Cond := .code yX2_enter cX2_enter 3 (some .int) :: ([.fieldLink RX2 24 "LampRoom$Tallies" "count" "I", .fieldLink RX2 9 "LampRoom$Tallies" "kinds" "[I", .fieldLink RX2 15 "LampRoom$Tallies" "held" "[I"] ++ wsX20)
def wsX2_hangUp : List Cond := .code yX2_hangUp cX2_hangUp 4 none :: ([.fieldLink RX2 15 "LampRoom$Tallies" "held" "[I", .fieldLink RX2 18 "LampRoom$Tallies" "hours" "[I", .fieldLink RX2 21 "LampRoom$Tallies" "orders" "[I", .fieldLink RX2 28 "LampRoom$Tallies" "issued" "I"] ++ wsX20)
def wsX2_takeDown : List Cond := .code yX2_takeDown cX2_takeDown 2 none :: ([.fieldLink RX2 15 "LampRoom$Tallies" "held" "[I"] ++ wsX20)
def wsX2_onBoard : List Cond := .code yX2_onBoard cX2_onBoard 3 (some .int) :: ([.fieldLink RX2 24 "LampRoom$Tallies" "count" "I", .fieldLink RX2 15 "LampRoom$Tallies" "held" "[I"] ++ wsX20)
def wsX2_countAhead : List Cond := .code yX2_countAhead cX2_countAhead 4 (some .int) :: ([.fieldLink RX2 24 "LampRoom$Tallies" "count" "I", .fieldLink RX2 15 "LampRoom$Tallies" "held" "[I", .fieldLink RX2 21 "LampRoom$Tallies" "orders" "[I"] ++ wsX20)
def wsX2_onBoardAt : List Cond := .code yX2_onBoardAt cX2_onBoardAt 3 (some .int) :: ([.fieldLink RX2 24 "LampRoom$Tallies" "count" "I", .fieldLink RX2 15 "LampRoom$Tallies" "held" "[I", .methodLink RX2 31 yX2_countAhead, .instanceMethod yX2_countAhead, .selects RX2 yX2_countAhead yX2_countAhead, .initialized RX2, .code yX2_countAhead cX2_countAhead 4 (some .int), .fieldLink RX2 21 "LampRoom$Tallies" "orders" "[I"] ++ wsX20)
def wsX3_init_r1 : List Cond := [Cond.methodLink RX3 1 objectInit, Cond.instanceMethod objectInit, Cond.code objectInit ⟨#[0xb1]⟩ 1 none, Cond.classLink RX3 7 RX1, Cond.instantiable RX1 7, Cond.initialized RX1, Cond.fieldLink RX3 10 "LampRoom" "lamps" "LLampRoom$Lamps;", Cond.classLink RX3 16 RX2, Cond.instantiable RX2 6, Cond.initialized RX2, Cond.fieldLink RX3 19 "LampRoom" "tallies" "LLampRoom$Tallies;", Cond.classLink RX3 23 RX0, Cond.instantiable RX0 1, Cond.initialized RX0, Cond.fieldLink RX3 26 "LampRoom" "alarms" "LLampRoom$Alarms;", Cond.fieldLink RX3 30 "LampRoom" "clock" "I", Cond.instanceMethod yX1_init, Cond.code yX1_init cX1_init 1 none, Cond.methodLink RX1 3 objectInit, Cond.arrayClass .int, Cond.fieldLink RX1 9 "LampRoom$Lamps" "kinds" "[I", Cond.fieldLink RX1 15 "LampRoom$Lamps" "places" "[I", Cond.fieldLink RX1 18 "LampRoom$Lamps" "turns" "[I", Cond.arrayClass .boolean]
def wsX3_init_r2 : List Cond := [Cond.fieldLink RX1 21 "LampRoom$Lamps" "leaks" "[Z", Cond.arrayClass .double, Cond.fieldLink RX1 25 "LampRoom$Lamps" "charges" "[D", Cond.fieldLink RX1 29 "LampRoom$Lamps" "capacities" "[D", Cond.fieldLink RX1 32 "LampRoom$Lamps" "count" "I", Cond.instanceMethod yX2_init, Cond.code yX2_init cX2_init 1 none, Cond.methodLink RX2 3 objectInit, Cond.fieldLink RX2 9 "LampRoom$Tallies" "kinds" "[I", Cond.fieldLink RX2 15 "LampRoom$Tallies" "held" "[I", Cond.fieldLink RX2 18 "LampRoom$Tallies" "hours" "[I", Cond.fieldLink RX2 21 "LampRoom$Tallies" "orders" "[I", Cond.fieldLink RX2 24 "LampRoom$Tallies" "count" "I", Cond.fieldLink RX2 28 "LampRoom$Tallies" "issued" "I", Cond.instanceMethod yX0_init, Cond.code yX0_init cX0_init 1 none, Cond.methodLink RX0 3 objectInit, Cond.fieldLink RX0 9 "LampRoom$Alarms" "began" "[I"]
def wsX3_init : List Cond := .code yX3_init cX3_init 1 none :: ((wsX3_init_r1 ++ wsX3_init_r2) ++ wsX10 ++ wsX30 ++ wsX20 ++ wsX00)
def wsX3_checkKind : List Cond := .code yX3_checkKind cX3_checkKind 1 none :: ([.classLink RX3 113 "java/lang/IllegalArgumentException", .initialized "java/lang/IllegalArgumentException"] ++ (vx_atS RX3 117 "java/lang/IllegalArgumentException" ["java/lang/RuntimeException", "java/lang/Exception"]).filter goodWord)
def wsX3_addLamp_r1 : List Cond := [Cond.classLink RX3 42 "java/lang/IllegalStateException", Cond.initialized "java/lang/IllegalStateException", Cond.fieldLink RX3 10 "LampRoom" "lamps" "LLampRoom$Lamps;", Cond.methodLink RX3 34 yX3_checkKind, Cond.static yX3_checkKind, Cond.initialized RX3, Cond.code yX3_checkKind cX3_checkKind 1 none, Cond.classLink RX3 113 "java/lang/IllegalArgumentException", Cond.initialized "java/lang/IllegalArgumentException", Cond.methodLink RX3 38 yX1_size, Cond.instanceMethod yX1_size, Cond.selects RX1 yX1_size yX1_size, Cond.initialized RX1, Cond.code yX1_size cX1_size 1 (some .int), Cond.fieldLink RX1 32 "LampRoom$Lamps" "count" "I", Cond.methodLink RX3 49 yX1_hangNew, Cond.instanceMethod yX1_hangNew, Cond.selects RX1 yX1_hangNew yX1_hangNew, Cond.code yX1_hangNew cX1_hangNew 3 (some .int), Cond.fieldLink RX1 9 "LampRoom$Lamps" "kinds" "[I", Cond.fieldLink RX1 15 "LampRoom$Lamps" "places" "[I", Cond.fieldLink RX1 29 "LampRoom$Lamps" "capacities" "[D", Cond.fieldLink RX1 25 "LampRoom$Lamps" "charges" "[D", Cond.methodLink RX1 36 yX1_newCapacity]
def wsX3_addLamp_r2 : List Cond := [Cond.static yX1_newCapacity, Cond.code yX1_newCapacity cX1_newCapacity 1 (some .double), Cond.constantDouble RX1 60 (4622945017495814144), Cond.constantDouble RX1 62 (4625196817309499392), Cond.constantDouble RX1 64 (4626322717216342016)]
def wsX3_addLamp : List Cond := .code yX3_addLamp cX3_addLamp 2 (some .int) :: ((wsX3_addLamp_r1 ++ wsX3_addLamp_r2) ++ wsX30 ++ wsX10 ++ (vx_atS RX3 46 "java/lang/IllegalStateException" ["java/lang/RuntimeException", "java/lang/Exception"]).filter goodWord ++ (vx_atS RX3 117 "java/lang/IllegalArgumentException" ["java/lang/RuntimeException", "java/lang/Exception"]).filter goodWord)
def wsX3_addMiner : List Cond := .code yX3_addMiner cX3_addMiner 2 (some .int) :: ([.classLink RX3 42 "java/lang/IllegalStateException", .initialized "java/lang/IllegalStateException", .fieldLink RX3 19 "LampRoom" "tallies" "LLampRoom$Tallies;", .methodLink RX3 34 yX3_checkKind, .static yX3_checkKind, .initialized RX3, .code yX3_checkKind cX3_checkKind 1 none, .classLink RX3 113 "java/lang/IllegalArgumentException", .initialized "java/lang/IllegalArgumentException", .methodLink RX3 53 yX2_size, .instanceMethod yX2_size, .selects RX2 yX2_size yX2_size, .initialized RX2, .code yX2_size cX2_size 1 (some .int), .fieldLink RX2 24 "LampRoom$Tallies" "count" "I", .methodLink RX3 56 yX2_enter, .instanceMethod yX2_enter, .selects RX2 yX2_enter yX2_enter, .code yX2_enter cX2_enter 3 (some .int), .fieldLink RX2 9 "LampRoom$Tallies" "kinds" "[I", .fieldLink RX2 15 "LampRoom$Tallies" "held" "[I"] ++ wsX30 ++ wsX20 ++ (vx_atS RX3 46 "java/lang/IllegalStateException" ["java/lang/RuntimeException", "java/lang/Exception"]).filter goodWord ++ (vx_atS RX3 117 "java/lang/IllegalArgumentException" ["java/lang/RuntimeException", "java/lang/Exception"]).filter goodWord)
def wsX3_checkMiner : List Cond := .code yX3_checkMiner cX3_checkMiner 2 none :: ([.classLink RX3 149 "java/lang/IndexOutOfBoundsException", .initialized "java/lang/IndexOutOfBoundsException", .fieldLink RX3 19 "LampRoom" "tallies" "LLampRoom$Tallies;", .methodLink RX3 53 yX2_size, .instanceMethod yX2_size, .selects RX2 yX2_size yX2_size, .initialized RX2, .code yX2_size cX2_size 1 (some .int), .fieldLink RX2 24 "LampRoom$Tallies" "count" "I"] ++ wsX30 ++ wsX20 ++ (vx_atS RX3 153 "java/lang/IndexOutOfBoundsException" ["java/lang/RuntimeException", "java/lang/Exception"]).filter goodWord)
def wsX3_issue_r1 : List Cond := [Cond.classLink RX3 42 "java/lang/IllegalStateException", Cond.initialized "java/lang/IllegalStateException", Cond.fieldLink RX3 19 "LampRoom" "tallies" "LLampRoom$Tallies;", Cond.fieldLink RX3 10 "LampRoom" "lamps" "LLampRoom$Lamps;", Cond.fieldLink RX3 30 "LampRoom" "clock" "I", Cond.methodLink RX3 59 yX3_checkMiner, Cond.instanceMethod yX3_checkMiner, Cond.selects RX3 yX3_checkMiner yX3_checkMiner, Cond.initialized RX3, Cond.code yX3_checkMiner cX3_checkMiner 2 none, Cond.classLink RX3 149 "java/lang/IndexOutOfBoundsException", Cond.initialized "java/lang/IndexOutOfBoundsException", Cond.methodLink RX3 53 yX2_size, Cond.instanceMethod yX2_size, Cond.selects RX2 yX2_size yX2_size, Cond.initialized RX2, Cond.code yX2_size cX2_size 1 (some .int), Cond.fieldLink RX2 24 "LampRoom$Tallies" "count" "I", Cond.methodLink RX3 62 yX2_lampHeld, Cond.instanceMethod yX2_lampHeld, Cond.selects RX2 yX2_lampHeld yX2_lampHeld, Cond.code yX2_lampHeld cX2_lampHeld 2 (some .int), Cond.fieldLink RX2 15 "LampRoom$Tallies" "held" "[I", Cond.methodLink RX3 67 yX2_kindAt]
def wsX3_issue_r2 : List Cond := [Cond.instanceMethod yX2_kindAt, Cond.selects RX2 yX2_kindAt yX2_kindAt, Cond.code yX2_kindAt cX2_kindAt 2 (some .int), Cond.fieldLink RX2 9 "LampRoom$Tallies" "kinds" "[I", Cond.methodLink RX3 70 yX1_bestFor, Cond.instanceMethod yX1_bestFor, Cond.selects RX1 yX1_bestFor yX1_bestFor, Cond.initialized RX1, Cond.code yX1_bestFor cX1_bestFor 4 (some .int), Cond.methodLink RX1 44 yX1_fullestOf, Cond.instanceMethod yX1_fullestOf, Cond.selects RX1 yX1_fullestOf yX1_fullestOf, Cond.code yX1_fullestOf cX1_fullestOf 4 (some .int), Cond.fieldLink RX1 32 "LampRoom$Lamps" "count" "I", Cond.fieldLink RX1 25 "LampRoom$Lamps" "charges" "[D", Cond.methodLink RX1 48 yX1_isIssuable, Cond.instanceMethod yX1_isIssuable, Cond.selects RX1 yX1_isIssuable yX1_isIssuable, Cond.code yX1_isIssuable cX1_isIssuable 3 (some .boolean), Cond.fieldLink RX1 9 "LampRoom$Lamps" "kinds" "[I", Cond.fieldLink RX1 15 "LampRoom$Lamps" "places" "[I", Cond.constantDouble RX1 52 (4621256167635550208), Cond.methodLink RX3 75 yX1_moveTo, Cond.instanceMethod yX1_moveTo]
def wsX3_issue_r3 : List Cond := [Cond.selects RX1 yX1_moveTo yX1_moveTo, Cond.code yX1_moveTo cX1_moveTo 3 none, Cond.methodLink RX3 79 yX2_hangUp, Cond.instanceMethod yX2_hangUp, Cond.selects RX2 yX2_hangUp yX2_hangUp, Cond.code yX2_hangUp cX2_hangUp 4 none, Cond.fieldLink RX2 18 "LampRoom$Tallies" "hours" "[I", Cond.fieldLink RX2 21 "LampRoom$Tallies" "orders" "[I", Cond.fieldLink RX2 28 "LampRoom$Tallies" "issued" "I"]
def wsX3_issue : List Cond := .code yX3_issue cX3_issue 3 (some .int) :: ((wsX3_issue_r1 ++ (wsX3_issue_r2 ++ wsX3_issue_r3)) ++ wsX30 ++ wsX20 ++ wsX10 ++ (vx_atS RX3 46 "java/lang/IllegalStateException" ["java/lang/RuntimeException", "java/lang/Exception"]).filter goodWord ++ (vx_atS RX3 153 "java/lang/IndexOutOfBoundsException" ["java/lang/RuntimeException", "java/lang/Exception"]).filter goodWord)
def wsX3_back_r1 : List Cond := [Cond.classLink RX3 42 "java/lang/IllegalStateException", Cond.initialized "java/lang/IllegalStateException", Cond.fieldLink RX3 19 "LampRoom" "tallies" "LLampRoom$Tallies;", Cond.fieldLink RX3 30 "LampRoom" "clock" "I", Cond.fieldLink RX3 10 "LampRoom" "lamps" "LLampRoom$Lamps;", Cond.fieldLink RX3 26 "LampRoom" "alarms" "LLampRoom$Alarms;", Cond.methodLink RX3 59 yX3_checkMiner, Cond.instanceMethod yX3_checkMiner, Cond.selects RX3 yX3_checkMiner yX3_checkMiner, Cond.initialized RX3, Cond.code yX3_checkMiner cX3_checkMiner 2 none, Cond.classLink RX3 149 "java/lang/IndexOutOfBoundsException", Cond.initialized "java/lang/IndexOutOfBoundsException", Cond.methodLink RX3 53 yX2_size, Cond.instanceMethod yX2_size, Cond.selects RX2 yX2_size yX2_size, Cond.initialized RX2, Cond.code yX2_size cX2_size 1 (some .int), Cond.fieldLink RX2 24 "LampRoom$Tallies" "count" "I", Cond.methodLink RX3 62 yX2_lampHeld, Cond.instanceMethod yX2_lampHeld, Cond.selects RX2 yX2_lampHeld yX2_lampHeld, Cond.code yX2_lampHeld cX2_lampHeld 2 (some .int), Cond.fieldLink RX2 15 "LampRoom$Tallies" "held" "[I"]
def wsX3_back_r2 : List Cond := [Cond.methodLink RX3 85 yX2_hungAt, Cond.instanceMethod yX2_hungAt, Cond.selects RX2 yX2_hungAt yX2_hungAt, Cond.code yX2_hungAt cX2_hungAt 2 (some .int), Cond.fieldLink RX2 18 "LampRoom$Tallies" "hours" "[I", Cond.methodLink RX3 88 yX1_takeBack, Cond.instanceMethod yX1_takeBack, Cond.selects RX1 yX1_takeBack yX1_takeBack, Cond.initialized RX1, Cond.code yX1_takeBack cX1_takeBack 2 none, Cond.fieldLink RX1 15 "LampRoom$Lamps" "places" "[I", Cond.fieldLink RX1 18 "LampRoom$Lamps" "turns" "[I", Cond.fieldLink RX1 21 "LampRoom$Lamps" "leaks" "[Z", Cond.fieldLink RX1 29 "LampRoom$Lamps" "capacities" "[D", Cond.constantDouble RX1 40 (4606912202822375178), Cond.fieldLink RX1 25 "LampRoom$Lamps" "charges" "[D", Cond.methodLink RX3 91 yX2_takeDown, Cond.instanceMethod yX2_takeDown, Cond.selects RX2 yX2_takeDown yX2_takeDown, Cond.code yX2_takeDown cX2_takeDown 2 none, Cond.methodLink RX3 94 yX0_end, Cond.instanceMethod yX0_end, Cond.selects RX0 yX0_end yX0_end, Cond.initialized RX0]
def wsX3_back_r3 : List Cond := [Cond.code yX0_end cX0_end 2 none, Cond.fieldLink RX0 9 "LampRoom$Alarms" "began" "[I"]
def wsX3_back : List Cond := .code yX3_back cX3_back 4 (some .int) :: ((wsX3_back_r1 ++ (wsX3_back_r2 ++ wsX3_back_r3)) ++ wsX30 ++ wsX20 ++ wsX10 ++ wsX00 ++ (vx_atS RX3 46 "java/lang/IllegalStateException" ["java/lang/RuntimeException", "java/lang/Exception"]).filter goodWord ++ (vx_atS RX3 153 "java/lang/IndexOutOfBoundsException" ["java/lang/RuntimeException", "java/lang/Exception"]).filter goodWord)
def wsX3_checkLamp : List Cond := .code yX3_checkLamp cX3_checkLamp 2 none :: ([.classLink RX3 149 "java/lang/IndexOutOfBoundsException", .initialized "java/lang/IndexOutOfBoundsException", .fieldLink RX3 10 "LampRoom" "lamps" "LLampRoom$Lamps;", .methodLink RX3 38 yX1_size, .instanceMethod yX1_size, .selects RX1 yX1_size yX1_size, .initialized RX1, .code yX1_size cX1_size 1 (some .int), .fieldLink RX1 32 "LampRoom$Lamps" "count" "I"] ++ wsX30 ++ wsX10 ++ (vx_atS RX3 153 "java/lang/IndexOutOfBoundsException" ["java/lang/RuntimeException", "java/lang/Exception"]).filter goodWord)
def wsX3_test_r1 : List Cond := [Cond.classLink RX3 42 "java/lang/IllegalStateException", Cond.initialized "java/lang/IllegalStateException", Cond.fieldLink RX3 10 "LampRoom" "lamps" "LLampRoom$Lamps;", Cond.methodLink RX3 97 yX3_checkLamp, Cond.instanceMethod yX3_checkLamp, Cond.selects RX3 yX3_checkLamp yX3_checkLamp, Cond.initialized RX3, Cond.code yX3_checkLamp cX3_checkLamp 2 none, Cond.classLink RX3 149 "java/lang/IndexOutOfBoundsException", Cond.initialized "java/lang/IndexOutOfBoundsException", Cond.methodLink RX3 38 yX1_size, Cond.instanceMethod yX1_size, Cond.selects RX1 yX1_size yX1_size, Cond.initialized RX1, Cond.code yX1_size cX1_size 1 (some .int), Cond.fieldLink RX1 32 "LampRoom$Lamps" "count" "I", Cond.methodLink RX3 100 yX1_placeAt, Cond.instanceMethod yX1_placeAt, Cond.selects RX1 yX1_placeAt yX1_placeAt, Cond.code yX1_placeAt cX1_placeAt 2 (some .int), Cond.fieldLink RX1 15 "LampRoom$Lamps" "places" "[I", Cond.methodLink RX3 105 yX1_faultAt, Cond.instanceMethod yX1_faultAt, Cond.selects RX1 yX1_faultAt yX1_faultAt]
def wsX3_test_r2 : List Cond := [Cond.code yX1_faultAt cX1_faultAt 2 (some .int), Cond.fieldLink RX1 21 "LampRoom$Lamps" "leaks" "[Z", Cond.fieldLink RX1 29 "LampRoom$Lamps" "capacities" "[D", Cond.constantDouble RX1 42 (4604930618986332160), Cond.fieldLink RX1 9 "LampRoom$Lamps" "kinds" "[I", Cond.methodLink RX1 36 yX1_newCapacity, Cond.static yX1_newCapacity, Cond.code yX1_newCapacity cX1_newCapacity 1 (some .double), Cond.constantDouble RX1 60 (4622945017495814144), Cond.constantDouble RX1 62 (4625196817309499392), Cond.constantDouble RX1 64 (4626322717216342016), Cond.methodLink RX3 75 yX1_moveTo, Cond.instanceMethod yX1_moveTo, Cond.selects RX1 yX1_moveTo yX1_moveTo, Cond.code yX1_moveTo cX1_moveTo 3 none]
def wsX3_test : List Cond := .code yX3_test cX3_test 3 (some .int) :: ((wsX3_test_r1 ++ wsX3_test_r2) ++ wsX30 ++ wsX10 ++ (vx_atS RX3 46 "java/lang/IllegalStateException" ["java/lang/RuntimeException", "java/lang/Exception"]).filter goodWord ++ (vx_atS RX3 153 "java/lang/IndexOutOfBoundsException" ["java/lang/RuntimeException", "java/lang/Exception"]).filter goodWord)
def wsX3_mend_r1 : List Cond := [Cond.classLink RX3 42 "java/lang/IllegalStateException", Cond.initialized "java/lang/IllegalStateException", Cond.fieldLink RX3 10 "LampRoom" "lamps" "LLampRoom$Lamps;", Cond.methodLink RX3 97 yX3_checkLamp, Cond.instanceMethod yX3_checkLamp, Cond.selects RX3 yX3_checkLamp yX3_checkLamp, Cond.initialized RX3, Cond.code yX3_checkLamp cX3_checkLamp 2 none, Cond.classLink RX3 149 "java/lang/IndexOutOfBoundsException", Cond.initialized "java/lang/IndexOutOfBoundsException", Cond.methodLink RX3 38 yX1_size, Cond.instanceMethod yX1_size, Cond.selects RX1 yX1_size yX1_size, Cond.initialized RX1, Cond.code yX1_size cX1_size 1 (some .int), Cond.fieldLink RX1 32 "LampRoom$Lamps" "count" "I", Cond.methodLink RX3 100 yX1_placeAt, Cond.instanceMethod yX1_placeAt, Cond.selects RX1 yX1_placeAt yX1_placeAt, Cond.code yX1_placeAt cX1_placeAt 2 (some .int), Cond.fieldLink RX1 15 "LampRoom$Lamps" "places" "[I", Cond.methodLink RX3 110 yX1_endLeak, Cond.instanceMethod yX1_endLeak, Cond.selects RX1 yX1_endLeak yX1_endLeak]
def wsX3_mend_r2 : List Cond := [Cond.code yX1_endLeak cX1_endLeak 2 none, Cond.fieldLink RX1 21 "LampRoom$Lamps" "leaks" "[Z", Cond.methodLink RX3 105 yX1_faultAt, Cond.instanceMethod yX1_faultAt, Cond.selects RX1 yX1_faultAt yX1_faultAt, Cond.code yX1_faultAt cX1_faultAt 2 (some .int), Cond.fieldLink RX1 29 "LampRoom$Lamps" "capacities" "[D", Cond.constantDouble RX1 42 (4604930618986332160), Cond.fieldLink RX1 9 "LampRoom$Lamps" "kinds" "[I", Cond.methodLink RX1 36 yX1_newCapacity, Cond.static yX1_newCapacity, Cond.code yX1_newCapacity cX1_newCapacity 1 (some .double), Cond.constantDouble RX1 60 (4622945017495814144), Cond.constantDouble RX1 62 (4625196817309499392), Cond.constantDouble RX1 64 (4626322717216342016), Cond.methodLink RX3 75 yX1_moveTo, Cond.instanceMethod yX1_moveTo, Cond.selects RX1 yX1_moveTo yX1_moveTo, Cond.code yX1_moveTo cX1_moveTo 3 none]
def wsX3_mend : List Cond := .code yX3_mend cX3_mend 3 (some .boolean) :: ((wsX3_mend_r1 ++ wsX3_mend_r2) ++ wsX30 ++ wsX10 ++ (vx_atS RX3 46 "java/lang/IllegalStateException" ["java/lang/RuntimeException", "java/lang/Exception"]).filter goodWord ++ (vx_atS RX3 153 "java/lang/IndexOutOfBoundsException" ["java/lang/RuntimeException", "java/lang/Exception"]).filter goodWord)
def wsX3_beginAlarms : List Cond := .code yX3_beginAlarms cX3_beginAlarms 4 (some .int) :: ([.fieldLink RX3 30 "LampRoom" "clock" "I", .fieldLink RX3 19 "LampRoom" "tallies" "LLampRoom$Tallies;", .fieldLink RX3 26 "LampRoom" "alarms" "LLampRoom$Alarms;", .fieldLink RX3 10 "LampRoom" "lamps" "LLampRoom$Lamps;", .methodLink RX3 85 yX2_hungAt, .instanceMethod yX2_hungAt, .selects RX2 yX2_hungAt yX2_hungAt, .initialized RX2, .code yX2_hungAt cX2_hungAt 2 (some .int), .fieldLink RX2 18 "LampRoom$Tallies" "hours" "[I", .methodLink RX3 166 yX0_begin, .instanceMethod yX0_begin, .selects RX0 yX0_begin yX0_begin, .initialized RX0, .code yX0_begin cX0_begin 5 (some .boolean), .fieldLink RX0 9 "LampRoom$Alarms" "began" "[I", .methodLink RX3 127 yX1_chargeAt, .instanceMethod yX1_chargeAt, .selects RX1 yX1_chargeAt yX1_chargeAt, .initialized RX1, .code yX1_chargeAt cX1_chargeAt 2 (some .double), .fieldLink RX1 25 "LampRoom$Lamps" "charges" "[D"] ++ wsX30 ++ wsX20 ++ wsX00 ++ wsX10)
def wsX3_passHour_r1 : List Cond := [Cond.fieldLink RX3 30 "LampRoom" "clock" "I", Cond.fieldLink RX3 10 "LampRoom" "lamps" "LLampRoom$Lamps;", Cond.fieldLink RX3 19 "LampRoom" "tallies" "LLampRoom$Tallies;", Cond.methodLink RX3 156 yX1_burn, Cond.instanceMethod yX1_burn, Cond.selects RX1 yX1_burn yX1_burn, Cond.initialized RX1, Cond.code yX1_burn cX1_burn 4 none, Cond.fieldLink RX1 32 "LampRoom$Lamps" "count" "I", Cond.fieldLink RX1 15 "LampRoom$Lamps" "places" "[I", Cond.fieldLink RX1 21 "LampRoom$Lamps" "leaks" "[Z", Cond.constantDouble RX1 54 (4609434218613702656), Cond.fieldLink RX1 25 "LampRoom$Lamps" "charges" "[D", Cond.methodLink RX3 159 yX1_load, Cond.instanceMethod yX1_load, Cond.selects RX1 yX1_load yX1_load, Cond.code yX1_load cX1_load 5 none, Cond.fieldLink RX1 29 "LampRoom$Lamps" "capacities" "[D", Cond.constantDouble RX1 56 (4612811918334230528), Cond.methodLink RX3 53 yX2_size, Cond.instanceMethod yX2_size, Cond.selects RX2 yX2_size yX2_size, Cond.initialized RX2, Cond.code yX2_size cX2_size 1 (some .int)]
def wsX3_passHour_r2 : List Cond := [Cond.fieldLink RX2 24 "LampRoom$Tallies" "count" "I", Cond.methodLink RX3 62 yX2_lampHeld, Cond.instanceMethod yX2_lampHeld, Cond.selects RX2 yX2_lampHeld yX2_lampHeld, Cond.code yX2_lampHeld cX2_lampHeld 2 (some .int), Cond.fieldLink RX2 15 "LampRoom$Tallies" "held" "[I", Cond.methodLink RX3 162 yX3_beginAlarms, Cond.instanceMethod yX3_beginAlarms, Cond.selects RX3 yX3_beginAlarms yX3_beginAlarms, Cond.initialized RX3, Cond.code yX3_beginAlarms cX3_beginAlarms 4 (some .int), Cond.fieldLink RX3 26 "LampRoom" "alarms" "LLampRoom$Alarms;", Cond.methodLink RX3 85 yX2_hungAt, Cond.instanceMethod yX2_hungAt, Cond.selects RX2 yX2_hungAt yX2_hungAt, Cond.code yX2_hungAt cX2_hungAt 2 (some .int), Cond.fieldLink RX2 18 "LampRoom$Tallies" "hours" "[I", Cond.methodLink RX3 166 yX0_begin, Cond.instanceMethod yX0_begin, Cond.selects RX0 yX0_begin yX0_begin, Cond.initialized RX0, Cond.code yX0_begin cX0_begin 5 (some .boolean), Cond.fieldLink RX0 9 "LampRoom$Alarms" "began" "[I", Cond.methodLink RX3 127 yX1_chargeAt]
def wsX3_passHour_r3 : List Cond := [Cond.instanceMethod yX1_chargeAt, Cond.selects RX1 yX1_chargeAt yX1_chargeAt, Cond.code yX1_chargeAt cX1_chargeAt 2 (some .double)]
def wsX3_passHour : List Cond := .code yX3_passHour cX3_passHour 4 (some .int) :: ((wsX3_passHour_r1 ++ (wsX3_passHour_r2 ++ wsX3_passHour_r3)) ++ wsX30 ++ wsX10 ++ wsX20 ++ wsX00)
def wsX3_hours_r1 : List Cond := [Cond.classLink RX3 113 "java/lang/IllegalArgumentException", Cond.initialized "java/lang/IllegalArgumentException", Cond.methodLink RX3 118 yX3_passHour, Cond.instanceMethod yX3_passHour, Cond.selects RX3 yX3_passHour yX3_passHour, Cond.initialized RX3, Cond.code yX3_passHour cX3_passHour 4 (some .int), Cond.fieldLink RX3 30 "LampRoom" "clock" "I", Cond.fieldLink RX3 10 "LampRoom" "lamps" "LLampRoom$Lamps;", Cond.fieldLink RX3 19 "LampRoom" "tallies" "LLampRoom$Tallies;", Cond.methodLink RX3 156 yX1_burn, Cond.instanceMethod yX1_burn, Cond.selects RX1 yX1_burn yX1_burn, Cond.initialized RX1, Cond.code yX1_burn cX1_burn 4 none, Cond.fieldLink RX1 32 "LampRoom$Lamps" "count" "I", Cond.fieldLink RX1 15 "LampRoom$Lamps" "places" "[I", Cond.fieldLink RX1 21 "LampRoom$Lamps" "leaks" "[Z", Cond.constantDouble RX1 54 (4609434218613702656), Cond.fieldLink RX1 25 "LampRoom$Lamps" "charges" "[D", Cond.methodLink RX3 159 yX1_load, Cond.instanceMethod yX1_load, Cond.selects RX1 yX1_load yX1_load, Cond.code yX1_load cX1_load 5 none]
def wsX3_hours_r2 : List Cond := [Cond.fieldLink RX1 29 "LampRoom$Lamps" "capacities" "[D", Cond.constantDouble RX1 56 (4612811918334230528), Cond.methodLink RX3 53 yX2_size, Cond.instanceMethod yX2_size, Cond.selects RX2 yX2_size yX2_size, Cond.initialized RX2, Cond.code yX2_size cX2_size 1 (some .int), Cond.fieldLink RX2 24 "LampRoom$Tallies" "count" "I", Cond.methodLink RX3 62 yX2_lampHeld, Cond.instanceMethod yX2_lampHeld, Cond.selects RX2 yX2_lampHeld yX2_lampHeld, Cond.code yX2_lampHeld cX2_lampHeld 2 (some .int), Cond.fieldLink RX2 15 "LampRoom$Tallies" "held" "[I", Cond.methodLink RX3 162 yX3_beginAlarms, Cond.instanceMethod yX3_beginAlarms, Cond.selects RX3 yX3_beginAlarms yX3_beginAlarms, Cond.code yX3_beginAlarms cX3_beginAlarms 4 (some .int), Cond.fieldLink RX3 26 "LampRoom" "alarms" "LLampRoom$Alarms;", Cond.methodLink RX3 85 yX2_hungAt, Cond.instanceMethod yX2_hungAt, Cond.selects RX2 yX2_hungAt yX2_hungAt, Cond.code yX2_hungAt cX2_hungAt 2 (some .int), Cond.fieldLink RX2 18 "LampRoom$Tallies" "hours" "[I", Cond.methodLink RX3 166 yX0_begin]
def wsX3_hours_r3 : List Cond := [Cond.instanceMethod yX0_begin, Cond.selects RX0 yX0_begin yX0_begin, Cond.initialized RX0, Cond.code yX0_begin cX0_begin 5 (some .boolean), Cond.fieldLink RX0 9 "LampRoom$Alarms" "began" "[I", Cond.methodLink RX3 127 yX1_chargeAt, Cond.instanceMethod yX1_chargeAt, Cond.selects RX1 yX1_chargeAt yX1_chargeAt, Cond.code yX1_chargeAt cX1_chargeAt 2 (some .double)]
def wsX3_hours : List Cond := .code yX3_hours cX3_hours 4 (some .int) :: ((wsX3_hours_r1 ++ (wsX3_hours_r2 ++ wsX3_hours_r3)) ++ wsX30 ++ wsX10 ++ wsX20 ++ wsX00 ++ (vx_atS RX3 117 "java/lang/IllegalArgumentException" ["java/lang/RuntimeException", "java/lang/Exception"]).filter goodWord)
def wsX3_below : List Cond := .code yX3_below cX3_below 1 (some .int) :: ([.fieldLink RX3 19 "LampRoom" "tallies" "LLampRoom$Tallies;", .methodLink RX3 121 yX2_onBoard, .instanceMethod yX2_onBoard, .selects RX2 yX2_onBoard yX2_onBoard, .initialized RX2, .code yX2_onBoard cX2_onBoard 3 (some .int), .fieldLink RX2 24 "LampRoom$Tallies" "count" "I", .fieldLink RX2 15 "LampRoom$Tallies" "held" "[I"] ++ wsX30 ++ wsX20)
def wsX3_board : List Cond := .code yX3_board cX3_board 2 (some .int) :: ([.fieldLink RX3 19 "LampRoom" "tallies" "LLampRoom$Tallies;", .methodLink RX3 124 yX2_onBoardAt, .instanceMethod yX2_onBoardAt, .selects RX2 yX2_onBoardAt yX2_onBoardAt, .initialized RX2, .code yX2_onBoardAt cX2_onBoardAt 3 (some .int), .fieldLink RX2 24 "LampRoom$Tallies" "count" "I", .fieldLink RX2 15 "LampRoom$Tallies" "held" "[I", .methodLink RX2 31 yX2_countAhead, .instanceMethod yX2_countAhead, .selects RX2 yX2_countAhead yX2_countAhead, .code yX2_countAhead cX2_countAhead 4 (some .int), .fieldLink RX2 21 "LampRoom$Tallies" "orders" "[I"] ++ wsX30 ++ wsX20)
def wsX3_lampOf : List Cond := .code yX3_lampOf cX3_lampOf 2 (some .int) :: ([.fieldLink RX3 19 "LampRoom" "tallies" "LLampRoom$Tallies;", .methodLink RX3 59 yX3_checkMiner, .instanceMethod yX3_checkMiner, .selects RX3 yX3_checkMiner yX3_checkMiner, .initialized RX3, .code yX3_checkMiner cX3_checkMiner 2 none, .classLink RX3 149 "java/lang/IndexOutOfBoundsException", .initialized "java/lang/IndexOutOfBoundsException", .methodLink RX3 53 yX2_size, .instanceMethod yX2_size, .selects RX2 yX2_size yX2_size, .initialized RX2, .code yX2_size cX2_size 1 (some .int), .fieldLink RX2 24 "LampRoom$Tallies" "count" "I", .methodLink RX3 62 yX2_lampHeld, .instanceMethod yX2_lampHeld, .selects RX2 yX2_lampHeld yX2_lampHeld, .code yX2_lampHeld cX2_lampHeld 2 (some .int), .fieldLink RX2 15 "LampRoom$Tallies" "held" "[I"] ++ wsX30 ++ wsX20 ++ (vx_atS RX3 153 "java/lang/IndexOutOfBoundsException" ["java/lang/RuntimeException", "java/lang/Exception"]).filter goodWord)
def wsX3_hoursBelow_r1 : List Cond := [Cond.fieldLink RX3 19 "LampRoom" "tallies" "LLampRoom$Tallies;", Cond.fieldLink RX3 30 "LampRoom" "clock" "I", Cond.methodLink RX3 59 yX3_checkMiner, Cond.instanceMethod yX3_checkMiner, Cond.selects RX3 yX3_checkMiner yX3_checkMiner, Cond.initialized RX3, Cond.code yX3_checkMiner cX3_checkMiner 2 none, Cond.classLink RX3 149 "java/lang/IndexOutOfBoundsException", Cond.initialized "java/lang/IndexOutOfBoundsException", Cond.methodLink RX3 53 yX2_size, Cond.instanceMethod yX2_size, Cond.selects RX2 yX2_size yX2_size, Cond.initialized RX2, Cond.code yX2_size cX2_size 1 (some .int), Cond.fieldLink RX2 24 "LampRoom$Tallies" "count" "I", Cond.methodLink RX3 62 yX2_lampHeld, Cond.instanceMethod yX2_lampHeld, Cond.selects RX2 yX2_lampHeld yX2_lampHeld, Cond.code yX2_lampHeld cX2_lampHeld 2 (some .int), Cond.fieldLink RX2 15 "LampRoom$Tallies" "held" "[I", Cond.methodLink RX3 85 yX2_hungAt, Cond.instanceMethod yX2_hungAt, Cond.selects RX2 yX2_hungAt yX2_hungAt, Cond.code yX2_hungAt cX2_hungAt 2 (some .int)]
def wsX3_hoursBelow_r2 : List Cond := [Cond.fieldLink RX2 18 "LampRoom$Tallies" "hours" "[I"]
def wsX3_hoursBelow : List Cond := .code yX3_hoursBelow cX3_hoursBelow 2 (some .int) :: ((wsX3_hoursBelow_r1 ++ wsX3_hoursBelow_r2) ++ wsX30 ++ wsX20 ++ (vx_atS RX3 153 "java/lang/IndexOutOfBoundsException" ["java/lang/RuntimeException", "java/lang/Exception"]).filter goodWord)
def wsX3_placeOf : List Cond := .code yX3_placeOf cX3_placeOf 2 (some .int) :: ([.fieldLink RX3 10 "LampRoom" "lamps" "LLampRoom$Lamps;", .methodLink RX3 97 yX3_checkLamp, .instanceMethod yX3_checkLamp, .selects RX3 yX3_checkLamp yX3_checkLamp, .initialized RX3, .code yX3_checkLamp cX3_checkLamp 2 none, .classLink RX3 149 "java/lang/IndexOutOfBoundsException", .initialized "java/lang/IndexOutOfBoundsException", .methodLink RX3 38 yX1_size, .instanceMethod yX1_size, .selects RX1 yX1_size yX1_size, .initialized RX1, .code yX1_size cX1_size 1 (some .int), .fieldLink RX1 32 "LampRoom$Lamps" "count" "I", .methodLink RX3 100 yX1_placeAt, .instanceMethod yX1_placeAt, .selects RX1 yX1_placeAt yX1_placeAt, .code yX1_placeAt cX1_placeAt 2 (some .int), .fieldLink RX1 15 "LampRoom$Lamps" "places" "[I"] ++ wsX30 ++ wsX10 ++ (vx_atS RX3 153 "java/lang/IndexOutOfBoundsException" ["java/lang/RuntimeException", "java/lang/Exception"]).filter goodWord)
def wsX3_chargeOf : List Cond := .code yX3_chargeOf cX3_chargeOf 2 (some .double) :: ([.fieldLink RX3 10 "LampRoom" "lamps" "LLampRoom$Lamps;", .methodLink RX3 97 yX3_checkLamp, .instanceMethod yX3_checkLamp, .selects RX3 yX3_checkLamp yX3_checkLamp, .initialized RX3, .code yX3_checkLamp cX3_checkLamp 2 none, .classLink RX3 149 "java/lang/IndexOutOfBoundsException", .initialized "java/lang/IndexOutOfBoundsException", .methodLink RX3 38 yX1_size, .instanceMethod yX1_size, .selects RX1 yX1_size yX1_size, .initialized RX1, .code yX1_size cX1_size 1 (some .int), .fieldLink RX1 32 "LampRoom$Lamps" "count" "I", .methodLink RX3 127 yX1_chargeAt, .instanceMethod yX1_chargeAt, .selects RX1 yX1_chargeAt yX1_chargeAt, .code yX1_chargeAt cX1_chargeAt 2 (some .double), .fieldLink RX1 25 "LampRoom$Lamps" "charges" "[D"] ++ wsX30 ++ wsX10 ++ (vx_atS RX3 153 "java/lang/IndexOutOfBoundsException" ["java/lang/RuntimeException", "java/lang/Exception"]).filter goodWord)
def wsX3_capacityOf : List Cond := .code yX3_capacityOf cX3_capacityOf 2 (some .double) :: ([.fieldLink RX3 10 "LampRoom" "lamps" "LLampRoom$Lamps;", .methodLink RX3 97 yX3_checkLamp, .instanceMethod yX3_checkLamp, .selects RX3 yX3_checkLamp yX3_checkLamp, .initialized RX3, .code yX3_checkLamp cX3_checkLamp 2 none, .classLink RX3 149 "java/lang/IndexOutOfBoundsException", .initialized "java/lang/IndexOutOfBoundsException", .methodLink RX3 38 yX1_size, .instanceMethod yX1_size, .selects RX1 yX1_size yX1_size, .initialized RX1, .code yX1_size cX1_size 1 (some .int), .fieldLink RX1 32 "LampRoom$Lamps" "count" "I", .methodLink RX3 131 yX1_capacityAt, .instanceMethod yX1_capacityAt, .selects RX1 yX1_capacityAt yX1_capacityAt, .code yX1_capacityAt cX1_capacityAt 2 (some .double), .fieldLink RX1 29 "LampRoom$Lamps" "capacities" "[D"] ++ wsX30 ++ wsX10 ++ (vx_atS RX3 153 "java/lang/IndexOutOfBoundsException" ["java/lang/RuntimeException", "java/lang/Exception"]).filter goodWord)
def wsX3_turnsOf : List Cond := .code yX3_turnsOf cX3_turnsOf 2 (some .int) :: ([.fieldLink RX3 10 "LampRoom" "lamps" "LLampRoom$Lamps;", .methodLink RX3 97 yX3_checkLamp, .instanceMethod yX3_checkLamp, .selects RX3 yX3_checkLamp yX3_checkLamp, .initialized RX3, .code yX3_checkLamp cX3_checkLamp 2 none, .classLink RX3 149 "java/lang/IndexOutOfBoundsException", .initialized "java/lang/IndexOutOfBoundsException", .methodLink RX3 38 yX1_size, .instanceMethod yX1_size, .selects RX1 yX1_size yX1_size, .initialized RX1, .code yX1_size cX1_size 1 (some .int), .fieldLink RX1 32 "LampRoom$Lamps" "count" "I", .methodLink RX3 134 yX1_turnsAt, .instanceMethod yX1_turnsAt, .selects RX1 yX1_turnsAt yX1_turnsAt, .code yX1_turnsAt cX1_turnsAt 2 (some .int), .fieldLink RX1 18 "LampRoom$Lamps" "turns" "[I"] ++ wsX30 ++ wsX10 ++ (vx_atS RX3 153 "java/lang/IndexOutOfBoundsException" ["java/lang/RuntimeException", "java/lang/Exception"]).filter goodWord)
def wsX3_ready : List Cond := .code yX3_ready cX3_ready 2 (some .int) :: ([.fieldLink RX3 10 "LampRoom" "lamps" "LLampRoom$Lamps;", .methodLink RX3 34 yX3_checkKind, .static yX3_checkKind, .initialized RX3, .code yX3_checkKind cX3_checkKind 1 none, .classLink RX3 113 "java/lang/IllegalArgumentException", .initialized "java/lang/IllegalArgumentException", .methodLink RX3 137 yX1_countIssuable, .instanceMethod yX1_countIssuable, .selects RX1 yX1_countIssuable yX1_countIssuable, .initialized RX1, .code yX1_countIssuable cX1_countIssuable 4 (some .int), .fieldLink RX1 32 "LampRoom$Lamps" "count" "I", .methodLink RX1 48 yX1_isIssuable, .instanceMethod yX1_isIssuable, .selects RX1 yX1_isIssuable yX1_isIssuable, .code yX1_isIssuable cX1_isIssuable 3 (some .boolean), .fieldLink RX1 9 "LampRoom$Lamps" "kinds" "[I", .fieldLink RX1 15 "LampRoom$Lamps" "places" "[I", .fieldLink RX1 25 "LampRoom$Lamps" "charges" "[D", .constantDouble RX1 52 (4621256167635550208)] ++ wsX30 ++ wsX10 ++ (vx_atS RX3 117 "java/lang/IllegalArgumentException" ["java/lang/RuntimeException", "java/lang/Exception"]).filter goodWord)
def wsX3_spares : List Cond := .code yX3_spares cX3_spares 4 (some .int) :: ([.fieldLink RX3 19 "LampRoom" "tallies" "LLampRoom$Tallies;", .fieldLink RX3 10 "LampRoom" "lamps" "LLampRoom$Lamps;", .methodLink RX3 53 yX2_size, .instanceMethod yX2_size, .selects RX2 yX2_size yX2_size, .initialized RX2, .code yX2_size cX2_size 1 (some .int), .fieldLink RX2 24 "LampRoom$Tallies" "count" "I", .methodLink RX3 62 yX2_lampHeld, .instanceMethod yX2_lampHeld, .selects RX2 yX2_lampHeld yX2_lampHeld, .code yX2_lampHeld cX2_lampHeld 2 (some .int), .fieldLink RX2 15 "LampRoom$Tallies" "held" "[I", .methodLink RX3 140 yX1_kindAt, .instanceMethod yX1_kindAt, .selects RX1 yX1_kindAt yX1_kindAt, .initialized RX1, .code yX1_kindAt cX1_kindAt 2 (some .int), .fieldLink RX1 9 "LampRoom$Lamps" "kinds" "[I", .methodLink RX3 67 yX2_kindAt, .instanceMethod yX2_kindAt, .selects RX2 yX2_kindAt yX2_kindAt, .code yX2_kindAt cX2_kindAt 2 (some .int), .fieldLink RX2 9 "LampRoom$Tallies" "kinds" "[I"] ++ wsX30 ++ wsX20 ++ wsX10)
def wsX3_alarm : List Cond := .code yX3_alarm cX3_alarm 2 (some .int) :: ([.fieldLink RX3 26 "LampRoom" "alarms" "LLampRoom$Alarms;", .methodLink RX3 141 yX0_lastingAt, .instanceMethod yX0_lastingAt, .selects RX0 yX0_lastingAt yX0_lastingAt, .initialized RX0, .code yX0_lastingAt cX0_lastingAt 3 (some .int), .fieldLink RX0 9 "LampRoom$Alarms" "began" "[I", .methodLink RX0 15 yX0_countAhead, .instanceMethod yX0_countAhead, .selects RX0 yX0_countAhead yX0_countAhead, .code yX0_countAhead cX0_countAhead 4 (some .int), .methodLink RX0 19 yX0_isAhead, .instanceMethod yX0_isAhead, .selects RX0 yX0_isAhead yX0_isAhead, .code yX0_isAhead cX0_isAhead 3 (some .boolean)] ++ wsX30 ++ wsX00)
def wsX3_lightLeft_r1 : List Cond := [Cond.fieldLink RX3 19 "LampRoom" "tallies" "LLampRoom$Tallies;", Cond.fieldLink RX3 10 "LampRoom" "lamps" "LLampRoom$Lamps;", Cond.methodLink RX3 59 yX3_checkMiner, Cond.instanceMethod yX3_checkMiner, Cond.selects RX3 yX3_checkMiner yX3_checkMiner, Cond.initialized RX3, Cond.code yX3_checkMiner cX3_checkMiner 2 none, Cond.classLink RX3 149 "java/lang/IndexOutOfBoundsException", Cond.initialized "java/lang/IndexOutOfBoundsException", Cond.methodLink RX3 53 yX2_size, Cond.instanceMethod yX2_size, Cond.selects RX2 yX2_size yX2_size, Cond.initialized RX2, Cond.code yX2_size cX2_size 1 (some .int), Cond.fieldLink RX2 24 "LampRoom$Tallies" "count" "I", Cond.methodLink RX3 62 yX2_lampHeld, Cond.instanceMethod yX2_lampHeld, Cond.selects RX2 yX2_lampHeld yX2_lampHeld, Cond.code yX2_lampHeld cX2_lampHeld 2 (some .int), Cond.fieldLink RX2 15 "LampRoom$Tallies" "held" "[I", Cond.methodLink RX3 127 yX1_chargeAt, Cond.instanceMethod yX1_chargeAt, Cond.selects RX1 yX1_chargeAt yX1_chargeAt, Cond.initialized RX1]
def wsX3_lightLeft_r2 : List Cond := [Cond.code yX1_chargeAt cX1_chargeAt 2 (some .double), Cond.fieldLink RX1 25 "LampRoom$Lamps" "charges" "[D"]
def wsX3_lightLeft : List Cond := .code yX3_lightLeft cX3_lightLeft 3 (some .int) :: ((wsX3_lightLeft_r1 ++ wsX3_lightLeft_r2) ++ wsX30 ++ wsX20 ++ wsX10 ++ (vx_atS RX3 153 "java/lang/IndexOutOfBoundsException" ["java/lang/RuntimeException", "java/lang/Exception"]).filter goodWord)
def wsX3_rackCharge : List Cond := .code yX3_rackCharge cX3_rackCharge 1 (some .int) :: ([.fieldLink RX3 10 "LampRoom" "lamps" "LLampRoom$Lamps;", .methodLink RX3 144 yX1_hundredthsOnRack, .instanceMethod yX1_hundredthsOnRack, .selects RX1 yX1_hundredthsOnRack yX1_hundredthsOnRack, .initialized RX1, .code yX1_hundredthsOnRack cX1_hundredthsOnRack 6 (some .int), .fieldLink RX1 32 "LampRoom$Lamps" "count" "I", .fieldLink RX1 15 "LampRoom$Lamps" "places" "[I", .fieldLink RX1 25 "LampRoom$Lamps" "charges" "[D", .fieldLink RX1 29 "LampRoom$Lamps" "capacities" "[D", .constantDouble RX1 58 (4636737291354636288)] ++ wsX30 ++ wsX10)
def wsX4_init : List Cond := .code yX4_init cX4_init 1 none :: ([.methodLink RX4 1 objectInit, .instanceMethod objectInit, .code objectInit ⟨#[0xb1]⟩ 1 none, .arrayClass .int, .fieldLink RX4 7 "LampRoomModel" "kindOf" "[I", .fieldLink RX4 13 "LampRoomModel" "place" "[I", .fieldLink RX4 16 "LampRoomModel" "turns" "[I", .arrayClass .boolean, .fieldLink RX4 19 "LampRoomModel" "leaks" "[Z", .arrayClass .double, .fieldLink RX4 23 "LampRoomModel" "charge" "[D", .fieldLink RX4 27 "LampRoomModel" "capacity" "[D", .fieldLink RX4 30 "LampRoomModel" "wants" "[I", .fieldLink RX4 33 "LampRoomModel" "lamp" "[I", .fieldLink RX4 36 "LampRoomModel" "since" "[I", .fieldLink RX4 39 "LampRoomModel" "board" "[I", .fieldLink RX4 42 "LampRoomModel" "alarm" "[I"] ++ wsX40)
def wsX4_thrown : List Cond := .code yX4_thrown cX4_thrown 1 (some .int) :: ([.fieldLink RX4 45 "LampRoomModel" "thrown" "I"] ++ wsX40)
def wsX4_in : List Cond := .code yX4_in cX4_in 3 (some .boolean) :: ([])
def wsX4_isLamp : List Cond := .code yX4_isLamp cX4_isLamp 2 (some .boolean) :: ([.fieldLink RX4 49 "LampRoomModel" "lamps" "I", .methodLink RX4 52 yX4_in, .static yX4_in, .initialized RX4, .code yX4_in cX4_in 3 (some .boolean)] ++ wsX40)
def wsX4_isMiner : List Cond := .code yX4_isMiner cX4_isMiner 2 (some .boolean) :: ([.fieldLink RX4 56 "LampRoomModel" "miners" "I", .methodLink RX4 52 yX4_in, .static yX4_in, .initialized RX4, .code yX4_in cX4_in 3 (some .boolean)] ++ wsX40)
def wsX4_full : List Cond := .code yX4_full cX4_full 1 (some .double) :: ([.constantDouble RX4 59 (4622945017495814144), .constantDouble RX4 61 (4625196817309499392), .constantDouble RX4 63 (4626322717216342016)])
def wsX4_addLamp : List Cond := .code yX4_addLamp cX4_addLamp 2 (some .int) :: ([.fieldLink RX4 49 "LampRoomModel" "lamps" "I", .fieldLink RX4 45 "LampRoomModel" "thrown" "I", .fieldLink RX4 7 "LampRoomModel" "kindOf" "[I", .fieldLink RX4 13 "LampRoomModel" "place" "[I", .fieldLink RX4 23 "LampRoomModel" "charge" "[D", .fieldLink RX4 27 "LampRoomModel" "capacity" "[D", .methodLink RX4 52 yX4_in, .static yX4_in, .initialized RX4, .code yX4_in cX4_in 3 (some .boolean), .methodLink RX4 65 yX4_full, .static yX4_full, .code yX4_full cX4_full 1 (some .double), .constantDouble RX4 59 (4622945017495814144), .constantDouble RX4 61 (4625196817309499392), .constantDouble RX4 63 (4626322717216342016)] ++ wsX40)
def wsX4_addMiner : List Cond := .code yX4_addMiner cX4_addMiner 2 (some .int) :: ([.fieldLink RX4 56 "LampRoomModel" "miners" "I", .fieldLink RX4 45 "LampRoomModel" "thrown" "I", .fieldLink RX4 30 "LampRoomModel" "wants" "[I", .fieldLink RX4 33 "LampRoomModel" "lamp" "[I", .methodLink RX4 52 yX4_in, .static yX4_in, .initialized RX4, .code yX4_in cX4_in 3 (some .boolean)] ++ wsX40)
def wsX4_isReady : List Cond := .code yX4_isReady cX4_isReady 2 (some .boolean) :: ([.fieldLink RX4 13 "LampRoomModel" "place" "[I", .fieldLink RX4 23 "LampRoomModel" "charge" "[D", .constantDouble RX4 69 (4621256167635550208)] ++ wsX40)
def wsX4_lampFor : List Cond := .code yX4_lampFor cX4_lampFor 6 (some .int) :: ([.fieldLink RX4 49 "LampRoomModel" "lamps" "I", .fieldLink RX4 7 "LampRoomModel" "kindOf" "[I", .fieldLink RX4 23 "LampRoomModel" "charge" "[D", .methodLink RX4 71 yX4_isReady, .instanceMethod yX4_isReady, .selects RX4 yX4_isReady yX4_isReady, .initialized RX4, .code yX4_isReady cX4_isReady 2 (some .boolean), .fieldLink RX4 13 "LampRoomModel" "place" "[I", .constantDouble RX4 69 (4621256167635550208)] ++ wsX40)
def wsX4_issue_r1 : List Cond := [Cond.fieldLink RX4 33 "LampRoomModel" "lamp" "[I", Cond.fieldLink RX4 30 "LampRoomModel" "wants" "[I", Cond.fieldLink RX4 45 "LampRoomModel" "thrown" "I", Cond.fieldLink RX4 13 "LampRoomModel" "place" "[I", Cond.fieldLink RX4 36 "LampRoomModel" "since" "[I", Cond.fieldLink RX4 82 "LampRoomModel" "hour" "I", Cond.fieldLink RX4 39 "LampRoomModel" "board" "[I", Cond.fieldLink RX4 85 "LampRoomModel" "below" "I", Cond.methodLink RX4 75 yX4_isMiner, Cond.instanceMethod yX4_isMiner, Cond.selects RX4 yX4_isMiner yX4_isMiner, Cond.initialized RX4, Cond.code yX4_isMiner cX4_isMiner 2 (some .boolean), Cond.fieldLink RX4 56 "LampRoomModel" "miners" "I", Cond.methodLink RX4 52 yX4_in, Cond.static yX4_in, Cond.code yX4_in cX4_in 3 (some .boolean), Cond.methodLink RX4 78 yX4_lampFor, Cond.instanceMethod yX4_lampFor, Cond.selects RX4 yX4_lampFor yX4_lampFor, Cond.code yX4_lampFor cX4_lampFor 6 (some .int), Cond.fieldLink RX4 49 "LampRoomModel" "lamps" "I", Cond.fieldLink RX4 7 "LampRoomModel" "kindOf" "[I", Cond.fieldLink RX4 23 "LampRoomModel" "charge" "[D"]
def wsX4_issue_r2 : List Cond := [Cond.methodLink RX4 71 yX4_isReady, Cond.instanceMethod yX4_isReady, Cond.selects RX4 yX4_isReady yX4_isReady, Cond.code yX4_isReady cX4_isReady 2 (some .boolean), Cond.constantDouble RX4 69 (4621256167635550208)]
def wsX4_issue : List Cond := .code yX4_issue cX4_issue 3 (some .int) :: ((wsX4_issue_r1 ++ wsX4_issue_r2) ++ wsX40)
def wsX4_comesOff : List Cond := .code yX4_comesOff cX4_comesOff 4 none :: ([.fieldLink RX4 85 "LampRoomModel" "below" "I", .fieldLink RX4 39 "LampRoomModel" "board" "[I", .fieldLink RX4 88 "LampRoomModel" "alarms" "I", .fieldLink RX4 42 "LampRoomModel" "alarm" "[I", .fieldLink RX4 33 "LampRoomModel" "lamp" "[I"] ++ wsX40)
def wsX4_back_r1 : List Cond := [Cond.fieldLink RX4 33 "LampRoomModel" "lamp" "[I", Cond.fieldLink RX4 45 "LampRoomModel" "thrown" "I", Cond.fieldLink RX4 13 "LampRoomModel" "place" "[I", Cond.fieldLink RX4 16 "LampRoomModel" "turns" "[I", Cond.fieldLink RX4 27 "LampRoomModel" "capacity" "[D", Cond.constantDouble RX4 91 (4606912202822375178), Cond.fieldLink RX4 23 "LampRoomModel" "charge" "[D", Cond.fieldLink RX4 19 "LampRoomModel" "leaks" "[Z", Cond.fieldLink RX4 82 "LampRoomModel" "hour" "I", Cond.fieldLink RX4 36 "LampRoomModel" "since" "[I", Cond.methodLink RX4 75 yX4_isMiner, Cond.instanceMethod yX4_isMiner, Cond.selects RX4 yX4_isMiner yX4_isMiner, Cond.initialized RX4, Cond.code yX4_isMiner cX4_isMiner 2 (some .boolean), Cond.fieldLink RX4 56 "LampRoomModel" "miners" "I", Cond.methodLink RX4 52 yX4_in, Cond.static yX4_in, Cond.code yX4_in cX4_in 3 (some .boolean), Cond.methodLink RX4 93 yX4_comesOff, Cond.instanceMethod yX4_comesOff, Cond.selects RX4 yX4_comesOff yX4_comesOff, Cond.code yX4_comesOff cX4_comesOff 4 none, Cond.fieldLink RX4 85 "LampRoomModel" "below" "I"]
def wsX4_back_r2 : List Cond := [Cond.fieldLink RX4 39 "LampRoomModel" "board" "[I", Cond.fieldLink RX4 88 "LampRoomModel" "alarms" "I", Cond.fieldLink RX4 42 "LampRoomModel" "alarm" "[I"]
def wsX4_back : List Cond := .code yX4_back cX4_back 3 (some .int) :: ((wsX4_back_r1 ++ wsX4_back_r2) ++ wsX40)
def wsX4_isWeak : List Cond := .code yX4_isWeak cX4_isWeak 2 (some .boolean) :: ([.fieldLink RX4 27 "LampRoomModel" "capacity" "[D", .constantDouble RX4 97 (4604930618986332160), .fieldLink RX4 7 "LampRoomModel" "kindOf" "[I", .methodLink RX4 65 yX4_full, .static yX4_full, .initialized RX4, .code yX4_full cX4_full 1 (some .double), .constantDouble RX4 59 (4622945017495814144), .constantDouble RX4 61 (4625196817309499392), .constantDouble RX4 63 (4626322717216342016)] ++ wsX40)
def wsX4_test_r1 : List Cond := [Cond.fieldLink RX4 13 "LampRoomModel" "place" "[I", Cond.fieldLink RX4 45 "LampRoomModel" "thrown" "I", Cond.fieldLink RX4 19 "LampRoomModel" "leaks" "[Z", Cond.methodLink RX4 99 yX4_isLamp, Cond.instanceMethod yX4_isLamp, Cond.selects RX4 yX4_isLamp yX4_isLamp, Cond.initialized RX4, Cond.code yX4_isLamp cX4_isLamp 2 (some .boolean), Cond.fieldLink RX4 49 "LampRoomModel" "lamps" "I", Cond.methodLink RX4 52 yX4_in, Cond.static yX4_in, Cond.code yX4_in cX4_in 3 (some .boolean), Cond.methodLink RX4 102 yX4_isWeak, Cond.instanceMethod yX4_isWeak, Cond.selects RX4 yX4_isWeak yX4_isWeak, Cond.code yX4_isWeak cX4_isWeak 2 (some .boolean), Cond.fieldLink RX4 27 "LampRoomModel" "capacity" "[D", Cond.constantDouble RX4 97 (4604930618986332160), Cond.fieldLink RX4 7 "LampRoomModel" "kindOf" "[I", Cond.methodLink RX4 65 yX4_full, Cond.static yX4_full, Cond.code yX4_full cX4_full 1 (some .double), Cond.constantDouble RX4 59 (4622945017495814144), Cond.constantDouble RX4 61 (4625196817309499392)]
def wsX4_test_r2 : List Cond := [Cond.constantDouble RX4 63 (4626322717216342016)]
def wsX4_test : List Cond := .code yX4_test cX4_test 3 (some .int) :: ((wsX4_test_r1 ++ wsX4_test_r2) ++ wsX40)
def wsX4_mend_r1 : List Cond := [Cond.fieldLink RX4 13 "LampRoomModel" "place" "[I", Cond.fieldLink RX4 45 "LampRoomModel" "thrown" "I", Cond.fieldLink RX4 19 "LampRoomModel" "leaks" "[Z", Cond.methodLink RX4 99 yX4_isLamp, Cond.instanceMethod yX4_isLamp, Cond.selects RX4 yX4_isLamp yX4_isLamp, Cond.initialized RX4, Cond.code yX4_isLamp cX4_isLamp 2 (some .boolean), Cond.fieldLink RX4 49 "LampRoomModel" "lamps" "I", Cond.methodLink RX4 52 yX4_in, Cond.static yX4_in, Cond.code yX4_in cX4_in 3 (some .boolean), Cond.methodLink RX4 102 yX4_isWeak, Cond.instanceMethod yX4_isWeak, Cond.selects RX4 yX4_isWeak yX4_isWeak, Cond.code yX4_isWeak cX4_isWeak 2 (some .boolean), Cond.fieldLink RX4 27 "LampRoomModel" "capacity" "[D", Cond.constantDouble RX4 97 (4604930618986332160), Cond.fieldLink RX4 7 "LampRoomModel" "kindOf" "[I", Cond.methodLink RX4 65 yX4_full, Cond.static yX4_full, Cond.code yX4_full cX4_full 1 (some .double), Cond.constantDouble RX4 59 (4622945017495814144), Cond.constantDouble RX4 61 (4625196817309499392)]
def wsX4_mend_r2 : List Cond := [Cond.constantDouble RX4 63 (4626322717216342016)]
def wsX4_mend : List Cond := .code yX4_mend cX4_mend 2 (some .boolean) :: ((wsX4_mend_r1 ++ wsX4_mend_r2) ++ wsX40)
def wsX4_isAlarmed : List Cond := .code yX4_isAlarmed cX4_isAlarmed 4 (some .boolean) :: ([.fieldLink RX4 88 "LampRoomModel" "alarms" "I", .fieldLink RX4 42 "LampRoomModel" "alarm" "[I"] ++ wsX40)
def wsX4_begins : List Cond := .code yX4_begins cX4_begins 3 (some .int) :: ([.fieldLink RX4 42 "LampRoomModel" "alarm" "[I", .fieldLink RX4 88 "LampRoomModel" "alarms" "I", .methodLink RX4 105 yX4_isAlarmed, .instanceMethod yX4_isAlarmed, .selects RX4 yX4_isAlarmed yX4_isAlarmed, .initialized RX4, .code yX4_isAlarmed cX4_isAlarmed 4 (some .boolean)] ++ wsX40)
def wsX4_goesBy : List Cond := .code yX4_goesBy cX4_goesBy 5 (some .int) :: ([.fieldLink RX4 49 "LampRoomModel" "lamps" "I", .fieldLink RX4 13 "LampRoomModel" "place" "[I", .fieldLink RX4 23 "LampRoomModel" "charge" "[D", .fieldLink RX4 19 "LampRoomModel" "leaks" "[Z", .constantDouble RX4 108 (4609434218613702656), .fieldLink RX4 27 "LampRoomModel" "capacity" "[D", .constantDouble RX4 110 (4612811918334230528), .fieldLink RX4 82 "LampRoomModel" "hour" "I", .fieldLink RX4 56 "LampRoomModel" "miners" "I", .fieldLink RX4 33 "LampRoomModel" "lamp" "[I", .fieldLink RX4 36 "LampRoomModel" "since" "[I", .methodLink RX4 112 yX4_begins, .instanceMethod yX4_begins, .selects RX4 yX4_begins yX4_begins, .initialized RX4, .code yX4_begins cX4_begins 3 (some .int), .fieldLink RX4 42 "LampRoomModel" "alarm" "[I", .fieldLink RX4 88 "LampRoomModel" "alarms" "I", .methodLink RX4 105 yX4_isAlarmed, .instanceMethod yX4_isAlarmed, .selects RX4 yX4_isAlarmed yX4_isAlarmed, .code yX4_isAlarmed cX4_isAlarmed 4 (some .boolean)] ++ wsX40)
def wsX4_hours_r1 : List Cond := [Cond.fieldLink RX4 45 "LampRoomModel" "thrown" "I", Cond.methodLink RX4 52 yX4_in, Cond.static yX4_in, Cond.initialized RX4, Cond.code yX4_in cX4_in 3 (some .boolean), Cond.methodLink RX4 116 yX4_goesBy, Cond.instanceMethod yX4_goesBy, Cond.selects RX4 yX4_goesBy yX4_goesBy, Cond.code yX4_goesBy cX4_goesBy 5 (some .int), Cond.fieldLink RX4 49 "LampRoomModel" "lamps" "I", Cond.fieldLink RX4 13 "LampRoomModel" "place" "[I", Cond.fieldLink RX4 23 "LampRoomModel" "charge" "[D", Cond.fieldLink RX4 19 "LampRoomModel" "leaks" "[Z", Cond.constantDouble RX4 108 (4609434218613702656), Cond.fieldLink RX4 27 "LampRoomModel" "capacity" "[D", Cond.constantDouble RX4 110 (4612811918334230528), Cond.fieldLink RX4 82 "LampRoomModel" "hour" "I", Cond.fieldLink RX4 56 "LampRoomModel" "miners" "I", Cond.fieldLink RX4 33 "LampRoomModel" "lamp" "[I", Cond.fieldLink RX4 36 "LampRoomModel" "since" "[I", Cond.methodLink RX4 112 yX4_begins, Cond.instanceMethod yX4_begins, Cond.selects RX4 yX4_begins yX4_begins, Cond.code yX4_begins cX4_begins 3 (some .int)]
def wsX4_hours_r2 : List Cond := [Cond.fieldLink RX4 42 "LampRoomModel" "alarm" "[I", Cond.fieldLink RX4 88 "LampRoomModel" "alarms" "I", Cond.methodLink RX4 105 yX4_isAlarmed, Cond.instanceMethod yX4_isAlarmed, Cond.selects RX4 yX4_isAlarmed yX4_isAlarmed, Cond.code yX4_isAlarmed cX4_isAlarmed 4 (some .boolean)]
def wsX4_hours : List Cond := .code yX4_hours cX4_hours 4 (some .int) :: ((wsX4_hours_r1 ++ wsX4_hours_r2) ++ wsX40)
def wsX4_below : List Cond := .code yX4_below cX4_below 1 (some .int) :: ([.fieldLink RX4 45 "LampRoomModel" "thrown" "I", .fieldLink RX4 85 "LampRoomModel" "below" "I"] ++ wsX40)
def wsX4_board : List Cond := .code yX4_board cX4_board 2 (some .int) :: ([.fieldLink RX4 45 "LampRoomModel" "thrown" "I", .fieldLink RX4 85 "LampRoomModel" "below" "I", .fieldLink RX4 39 "LampRoomModel" "board" "[I", .methodLink RX4 52 yX4_in, .static yX4_in, .initialized RX4, .code yX4_in cX4_in 3 (some .boolean)] ++ wsX40)
def wsX4_lampOf : List Cond := .code yX4_lampOf cX4_lampOf 2 (some .int) :: ([.fieldLink RX4 45 "LampRoomModel" "thrown" "I", .fieldLink RX4 33 "LampRoomModel" "lamp" "[I", .methodLink RX4 75 yX4_isMiner, .instanceMethod yX4_isMiner, .selects RX4 yX4_isMiner yX4_isMiner, .initialized RX4, .code yX4_isMiner cX4_isMiner 2 (some .boolean), .fieldLink RX4 56 "LampRoomModel" "miners" "I", .methodLink RX4 52 yX4_in, .static yX4_in, .code yX4_in cX4_in 3 (some .boolean)] ++ wsX40)
def wsX4_hoursBelow : List Cond := .code yX4_hoursBelow cX4_hoursBelow 2 (some .int) :: ([.fieldLink RX4 45 "LampRoomModel" "thrown" "I", .fieldLink RX4 33 "LampRoomModel" "lamp" "[I", .fieldLink RX4 82 "LampRoomModel" "hour" "I", .fieldLink RX4 36 "LampRoomModel" "since" "[I", .methodLink RX4 75 yX4_isMiner, .instanceMethod yX4_isMiner, .selects RX4 yX4_isMiner yX4_isMiner, .initialized RX4, .code yX4_isMiner cX4_isMiner 2 (some .boolean), .fieldLink RX4 56 "LampRoomModel" "miners" "I", .methodLink RX4 52 yX4_in, .static yX4_in, .code yX4_in cX4_in 3 (some .boolean)] ++ wsX40)
def wsX4_placeOf : List Cond := .code yX4_placeOf cX4_placeOf 2 (some .int) :: ([.fieldLink RX4 45 "LampRoomModel" "thrown" "I", .fieldLink RX4 13 "LampRoomModel" "place" "[I", .methodLink RX4 99 yX4_isLamp, .instanceMethod yX4_isLamp, .selects RX4 yX4_isLamp yX4_isLamp, .initialized RX4, .code yX4_isLamp cX4_isLamp 2 (some .boolean), .fieldLink RX4 49 "LampRoomModel" "lamps" "I", .methodLink RX4 52 yX4_in, .static yX4_in, .code yX4_in cX4_in 3 (some .boolean)] ++ wsX40)
def wsX4_chargeOf : List Cond := .code yX4_chargeOf cX4_chargeOf 2 (some .double) :: ([.fieldLink RX4 45 "LampRoomModel" "thrown" "I", .fieldLink RX4 23 "LampRoomModel" "charge" "[D", .methodLink RX4 99 yX4_isLamp, .instanceMethod yX4_isLamp, .selects RX4 yX4_isLamp yX4_isLamp, .initialized RX4, .code yX4_isLamp cX4_isLamp 2 (some .boolean), .fieldLink RX4 49 "LampRoomModel" "lamps" "I", .methodLink RX4 52 yX4_in, .static yX4_in, .code yX4_in cX4_in 3 (some .boolean)] ++ wsX40)
def wsX4_capacityOf : List Cond := .code yX4_capacityOf cX4_capacityOf 2 (some .double) :: ([.fieldLink RX4 45 "LampRoomModel" "thrown" "I", .fieldLink RX4 27 "LampRoomModel" "capacity" "[D", .methodLink RX4 99 yX4_isLamp, .instanceMethod yX4_isLamp, .selects RX4 yX4_isLamp yX4_isLamp, .initialized RX4, .code yX4_isLamp cX4_isLamp 2 (some .boolean), .fieldLink RX4 49 "LampRoomModel" "lamps" "I", .methodLink RX4 52 yX4_in, .static yX4_in, .code yX4_in cX4_in 3 (some .boolean)] ++ wsX40)
def wsX4_turnsOf : List Cond := .code yX4_turnsOf cX4_turnsOf 2 (some .int) :: ([.fieldLink RX4 45 "LampRoomModel" "thrown" "I", .fieldLink RX4 16 "LampRoomModel" "turns" "[I", .methodLink RX4 99 yX4_isLamp, .instanceMethod yX4_isLamp, .selects RX4 yX4_isLamp yX4_isLamp, .initialized RX4, .code yX4_isLamp cX4_isLamp 2 (some .boolean), .fieldLink RX4 49 "LampRoomModel" "lamps" "I", .methodLink RX4 52 yX4_in, .static yX4_in, .code yX4_in cX4_in 3 (some .boolean)] ++ wsX40)
def wsX4_ready : List Cond := .code yX4_ready cX4_ready 4 (some .int) :: ([.fieldLink RX4 45 "LampRoomModel" "thrown" "I", .fieldLink RX4 49 "LampRoomModel" "lamps" "I", .fieldLink RX4 7 "LampRoomModel" "kindOf" "[I", .methodLink RX4 52 yX4_in, .static yX4_in, .initialized RX4, .code yX4_in cX4_in 3 (some .boolean), .methodLink RX4 71 yX4_isReady, .instanceMethod yX4_isReady, .selects RX4 yX4_isReady yX4_isReady, .code yX4_isReady cX4_isReady 2 (some .boolean), .fieldLink RX4 13 "LampRoomModel" "place" "[I", .fieldLink RX4 23 "LampRoomModel" "charge" "[D", .constantDouble RX4 69 (4621256167635550208)] ++ wsX40)
def wsX4_spares : List Cond := .code yX4_spares cX4_spares 3 (some .int) :: ([.fieldLink RX4 45 "LampRoomModel" "thrown" "I", .fieldLink RX4 85 "LampRoomModel" "below" "I", .fieldLink RX4 7 "LampRoomModel" "kindOf" "[I", .fieldLink RX4 33 "LampRoomModel" "lamp" "[I", .fieldLink RX4 39 "LampRoomModel" "board" "[I", .fieldLink RX4 30 "LampRoomModel" "wants" "[I"] ++ wsX40)
def wsX4_alarm : List Cond := .code yX4_alarm cX4_alarm 2 (some .int) :: ([.fieldLink RX4 45 "LampRoomModel" "thrown" "I", .fieldLink RX4 88 "LampRoomModel" "alarms" "I", .fieldLink RX4 42 "LampRoomModel" "alarm" "[I", .methodLink RX4 52 yX4_in, .static yX4_in, .initialized RX4, .code yX4_in cX4_in 3 (some .boolean)] ++ wsX40)
def wsX4_lightLeft : List Cond := .code yX4_lightLeft cX4_lightLeft 2 (some .int) :: ([.fieldLink RX4 45 "LampRoomModel" "thrown" "I", .fieldLink RX4 33 "LampRoomModel" "lamp" "[I", .fieldLink RX4 23 "LampRoomModel" "charge" "[D", .methodLink RX4 75 yX4_isMiner, .instanceMethod yX4_isMiner, .selects RX4 yX4_isMiner yX4_isMiner, .initialized RX4, .code yX4_isMiner cX4_isMiner 2 (some .boolean), .fieldLink RX4 56 "LampRoomModel" "miners" "I", .methodLink RX4 52 yX4_in, .static yX4_in, .code yX4_in cX4_in 3 (some .boolean)] ++ wsX40)
def wsX4_rackCharge : List Cond := .code yX4_rackCharge cX4_rackCharge 6 (some .int) :: ([.fieldLink RX4 45 "LampRoomModel" "thrown" "I", .fieldLink RX4 49 "LampRoomModel" "lamps" "I", .fieldLink RX4 13 "LampRoomModel" "place" "[I", .fieldLink RX4 23 "LampRoomModel" "charge" "[D", .fieldLink RX4 27 "LampRoomModel" "capacity" "[D", .constantDouble RX4 120 (4636737291354636288)] ++ wsX40)
def wsL_addLamp_r1 : List Cond := [Cond.classLink RL 13 "java/lang/IllegalArgumentException", Cond.classLink RL 15 "java/lang/IllegalStateException", Cond.methodLink RL 7 yX3_addLamp, Cond.instanceMethod yX3_addLamp, Cond.selects RX3 yX3_addLamp yX3_addLamp, Cond.initialized RX3, Cond.code yX3_addLamp cX3_addLamp 2 (some .int), Cond.classLink RX3 42 "java/lang/IllegalStateException", Cond.initialized "java/lang/IllegalStateException", Cond.fieldLink RX3 10 "LampRoom" "lamps" "LLampRoom$Lamps;", Cond.methodLink RX3 34 yX3_checkKind, Cond.static yX3_checkKind, Cond.code yX3_checkKind cX3_checkKind 1 none, Cond.classLink RX3 113 "java/lang/IllegalArgumentException", Cond.initialized "java/lang/IllegalArgumentException", Cond.methodLink RX3 38 yX1_size, Cond.instanceMethod yX1_size, Cond.selects RX1 yX1_size yX1_size, Cond.initialized RX1, Cond.code yX1_size cX1_size 1 (some .int), Cond.fieldLink RX1 32 "LampRoom$Lamps" "count" "I", Cond.methodLink RX3 49 yX1_hangNew, Cond.instanceMethod yX1_hangNew, Cond.selects RX1 yX1_hangNew yX1_hangNew]
def wsL_addLamp_r2 : List Cond := [Cond.code yX1_hangNew cX1_hangNew 3 (some .int), Cond.fieldLink RX1 9 "LampRoom$Lamps" "kinds" "[I", Cond.fieldLink RX1 15 "LampRoom$Lamps" "places" "[I", Cond.fieldLink RX1 29 "LampRoom$Lamps" "capacities" "[D", Cond.fieldLink RX1 25 "LampRoom$Lamps" "charges" "[D", Cond.methodLink RX1 36 yX1_newCapacity, Cond.static yX1_newCapacity, Cond.code yX1_newCapacity cX1_newCapacity 1 (some .double), Cond.constantDouble RX1 60 (4622945017495814144), Cond.constantDouble RX1 62 (4625196817309499392), Cond.constantDouble RX1 64 (4626322717216342016)]
def wsL_addLamp : List Cond := .codeWith yL_addLamp cL_addLamp 4 (some .int) [(0, 9, 12, 13), (0, 9, 15, 15)] :: ((wsL_addLamp_r1 ++ wsL_addLamp_r2) ++ wsX30 ++ wsX10 ++ (vx_atS RX3 46 "java/lang/IllegalStateException" ["java/lang/RuntimeException", "java/lang/Exception"]).filter goodWord ++ (vx_atS RX3 117 "java/lang/IllegalArgumentException" ["java/lang/RuntimeException", "java/lang/Exception"]).filter goodWord)
def wsL_addMiner_r1 : List Cond := [Cond.classLink RL 13 "java/lang/IllegalArgumentException", Cond.classLink RL 15 "java/lang/IllegalStateException", Cond.methodLink RL 17 yX3_addMiner, Cond.instanceMethod yX3_addMiner, Cond.selects RX3 yX3_addMiner yX3_addMiner, Cond.initialized RX3, Cond.code yX3_addMiner cX3_addMiner 2 (some .int), Cond.classLink RX3 42 "java/lang/IllegalStateException", Cond.initialized "java/lang/IllegalStateException", Cond.fieldLink RX3 19 "LampRoom" "tallies" "LLampRoom$Tallies;", Cond.methodLink RX3 34 yX3_checkKind, Cond.static yX3_checkKind, Cond.code yX3_checkKind cX3_checkKind 1 none, Cond.classLink RX3 113 "java/lang/IllegalArgumentException", Cond.initialized "java/lang/IllegalArgumentException", Cond.methodLink RX3 53 yX2_size, Cond.instanceMethod yX2_size, Cond.selects RX2 yX2_size yX2_size, Cond.initialized RX2, Cond.code yX2_size cX2_size 1 (some .int), Cond.fieldLink RX2 24 "LampRoom$Tallies" "count" "I", Cond.methodLink RX3 56 yX2_enter, Cond.instanceMethod yX2_enter, Cond.selects RX2 yX2_enter yX2_enter]
def wsL_addMiner_r2 : List Cond := [Cond.code yX2_enter cX2_enter 3 (some .int), Cond.fieldLink RX2 9 "LampRoom$Tallies" "kinds" "[I", Cond.fieldLink RX2 15 "LampRoom$Tallies" "held" "[I"]
def wsL_addMiner : List Cond := .codeWith yL_addMiner cL_addMiner 4 (some .int) [(0, 9, 12, 13), (0, 9, 15, 15)] :: ((wsL_addMiner_r1 ++ wsL_addMiner_r2) ++ wsX30 ++ wsX20 ++ (vx_atS RX3 46 "java/lang/IllegalStateException" ["java/lang/RuntimeException", "java/lang/Exception"]).filter goodWord ++ (vx_atS RX3 117 "java/lang/IllegalArgumentException" ["java/lang/RuntimeException", "java/lang/Exception"]).filter goodWord)
def wsL_issue_r1 : List Cond := [Cond.classLink RL 23 "java/lang/IndexOutOfBoundsException", Cond.classLink RL 15 "java/lang/IllegalStateException", Cond.methodLink RL 20 yX3_issue, Cond.instanceMethod yX3_issue, Cond.selects RX3 yX3_issue yX3_issue, Cond.initialized RX3, Cond.code yX3_issue cX3_issue 3 (some .int), Cond.classLink RX3 42 "java/lang/IllegalStateException", Cond.initialized "java/lang/IllegalStateException", Cond.fieldLink RX3 19 "LampRoom" "tallies" "LLampRoom$Tallies;", Cond.fieldLink RX3 10 "LampRoom" "lamps" "LLampRoom$Lamps;", Cond.fieldLink RX3 30 "LampRoom" "clock" "I", Cond.methodLink RX3 59 yX3_checkMiner, Cond.instanceMethod yX3_checkMiner, Cond.selects RX3 yX3_checkMiner yX3_checkMiner, Cond.code yX3_checkMiner cX3_checkMiner 2 none, Cond.classLink RX3 149 "java/lang/IndexOutOfBoundsException", Cond.initialized "java/lang/IndexOutOfBoundsException", Cond.methodLink RX3 53 yX2_size, Cond.instanceMethod yX2_size, Cond.selects RX2 yX2_size yX2_size, Cond.initialized RX2, Cond.code yX2_size cX2_size 1 (some .int), Cond.fieldLink RX2 24 "LampRoom$Tallies" "count" "I"]
def wsL_issue_r2 : List Cond := [Cond.methodLink RX3 62 yX2_lampHeld, Cond.instanceMethod yX2_lampHeld, Cond.selects RX2 yX2_lampHeld yX2_lampHeld, Cond.code yX2_lampHeld cX2_lampHeld 2 (some .int), Cond.fieldLink RX2 15 "LampRoom$Tallies" "held" "[I", Cond.methodLink RX3 67 yX2_kindAt, Cond.instanceMethod yX2_kindAt, Cond.selects RX2 yX2_kindAt yX2_kindAt, Cond.code yX2_kindAt cX2_kindAt 2 (some .int), Cond.fieldLink RX2 9 "LampRoom$Tallies" "kinds" "[I", Cond.methodLink RX3 70 yX1_bestFor, Cond.instanceMethod yX1_bestFor, Cond.selects RX1 yX1_bestFor yX1_bestFor, Cond.initialized RX1, Cond.code yX1_bestFor cX1_bestFor 4 (some .int), Cond.methodLink RX1 44 yX1_fullestOf, Cond.instanceMethod yX1_fullestOf, Cond.selects RX1 yX1_fullestOf yX1_fullestOf, Cond.code yX1_fullestOf cX1_fullestOf 4 (some .int), Cond.fieldLink RX1 32 "LampRoom$Lamps" "count" "I", Cond.fieldLink RX1 25 "LampRoom$Lamps" "charges" "[D", Cond.methodLink RX1 48 yX1_isIssuable, Cond.instanceMethod yX1_isIssuable, Cond.selects RX1 yX1_isIssuable yX1_isIssuable]
def wsL_issue_r3 : List Cond := [Cond.code yX1_isIssuable cX1_isIssuable 3 (some .boolean), Cond.fieldLink RX1 9 "LampRoom$Lamps" "kinds" "[I", Cond.fieldLink RX1 15 "LampRoom$Lamps" "places" "[I", Cond.constantDouble RX1 52 (4621256167635550208), Cond.methodLink RX3 75 yX1_moveTo, Cond.instanceMethod yX1_moveTo, Cond.selects RX1 yX1_moveTo yX1_moveTo, Cond.code yX1_moveTo cX1_moveTo 3 none, Cond.methodLink RX3 79 yX2_hangUp, Cond.instanceMethod yX2_hangUp, Cond.selects RX2 yX2_hangUp yX2_hangUp, Cond.code yX2_hangUp cX2_hangUp 4 none, Cond.fieldLink RX2 18 "LampRoom$Tallies" "hours" "[I", Cond.fieldLink RX2 21 "LampRoom$Tallies" "orders" "[I", Cond.fieldLink RX2 28 "LampRoom$Tallies" "issued" "I"]
def wsL_issue : List Cond := .codeWith yL_issue cL_issue 4 (some .int) [(0, 9, 12, 23), (0, 9, 15, 15)] :: ((wsL_issue_r1 ++ (wsL_issue_r2 ++ wsL_issue_r3)) ++ wsX30 ++ wsX20 ++ wsX10 ++ (vx_atS RX3 46 "java/lang/IllegalStateException" ["java/lang/RuntimeException", "java/lang/Exception"]).filter goodWord ++ (vx_atS RX3 153 "java/lang/IndexOutOfBoundsException" ["java/lang/RuntimeException", "java/lang/Exception"]).filter goodWord)
def wsL_back_r1 : List Cond := [Cond.classLink RL 23 "java/lang/IndexOutOfBoundsException", Cond.classLink RL 15 "java/lang/IllegalStateException", Cond.methodLink RL 25 yX3_back, Cond.instanceMethod yX3_back, Cond.selects RX3 yX3_back yX3_back, Cond.initialized RX3, Cond.code yX3_back cX3_back 4 (some .int), Cond.classLink RX3 42 "java/lang/IllegalStateException", Cond.initialized "java/lang/IllegalStateException", Cond.fieldLink RX3 19 "LampRoom" "tallies" "LLampRoom$Tallies;", Cond.fieldLink RX3 30 "LampRoom" "clock" "I", Cond.fieldLink RX3 10 "LampRoom" "lamps" "LLampRoom$Lamps;", Cond.fieldLink RX3 26 "LampRoom" "alarms" "LLampRoom$Alarms;", Cond.methodLink RX3 59 yX3_checkMiner, Cond.instanceMethod yX3_checkMiner, Cond.selects RX3 yX3_checkMiner yX3_checkMiner, Cond.code yX3_checkMiner cX3_checkMiner 2 none, Cond.classLink RX3 149 "java/lang/IndexOutOfBoundsException", Cond.initialized "java/lang/IndexOutOfBoundsException", Cond.methodLink RX3 53 yX2_size, Cond.instanceMethod yX2_size, Cond.selects RX2 yX2_size yX2_size, Cond.initialized RX2, Cond.code yX2_size cX2_size 1 (some .int)]
def wsL_back_r2 : List Cond := [Cond.fieldLink RX2 24 "LampRoom$Tallies" "count" "I", Cond.methodLink RX3 62 yX2_lampHeld, Cond.instanceMethod yX2_lampHeld, Cond.selects RX2 yX2_lampHeld yX2_lampHeld, Cond.code yX2_lampHeld cX2_lampHeld 2 (some .int), Cond.fieldLink RX2 15 "LampRoom$Tallies" "held" "[I", Cond.methodLink RX3 85 yX2_hungAt, Cond.instanceMethod yX2_hungAt, Cond.selects RX2 yX2_hungAt yX2_hungAt, Cond.code yX2_hungAt cX2_hungAt 2 (some .int), Cond.fieldLink RX2 18 "LampRoom$Tallies" "hours" "[I", Cond.methodLink RX3 88 yX1_takeBack, Cond.instanceMethod yX1_takeBack, Cond.selects RX1 yX1_takeBack yX1_takeBack, Cond.initialized RX1, Cond.code yX1_takeBack cX1_takeBack 2 none, Cond.fieldLink RX1 15 "LampRoom$Lamps" "places" "[I", Cond.fieldLink RX1 18 "LampRoom$Lamps" "turns" "[I", Cond.fieldLink RX1 21 "LampRoom$Lamps" "leaks" "[Z", Cond.fieldLink RX1 29 "LampRoom$Lamps" "capacities" "[D", Cond.constantDouble RX1 40 (4606912202822375178), Cond.fieldLink RX1 25 "LampRoom$Lamps" "charges" "[D", Cond.methodLink RX3 91 yX2_takeDown, Cond.instanceMethod yX2_takeDown]
def wsL_back_r3 : List Cond := [Cond.selects RX2 yX2_takeDown yX2_takeDown, Cond.code yX2_takeDown cX2_takeDown 2 none, Cond.methodLink RX3 94 yX0_end, Cond.instanceMethod yX0_end, Cond.selects RX0 yX0_end yX0_end, Cond.initialized RX0, Cond.code yX0_end cX0_end 2 none, Cond.fieldLink RX0 9 "LampRoom$Alarms" "began" "[I"]
def wsL_back : List Cond := .codeWith yL_back cL_back 4 (some .int) [(0, 9, 12, 23), (0, 9, 15, 15)] :: ((wsL_back_r1 ++ (wsL_back_r2 ++ wsL_back_r3)) ++ wsX30 ++ wsX20 ++ wsX10 ++ wsX00 ++ (vx_atS RX3 46 "java/lang/IllegalStateException" ["java/lang/RuntimeException", "java/lang/Exception"]).filter goodWord ++ (vx_atS RX3 153 "java/lang/IndexOutOfBoundsException" ["java/lang/RuntimeException", "java/lang/Exception"]).filter goodWord)
def wsL_test_r1 : List Cond := [Cond.classLink RL 23 "java/lang/IndexOutOfBoundsException", Cond.classLink RL 15 "java/lang/IllegalStateException", Cond.methodLink RL 28 yX3_test, Cond.instanceMethod yX3_test, Cond.selects RX3 yX3_test yX3_test, Cond.initialized RX3, Cond.code yX3_test cX3_test 3 (some .int), Cond.classLink RX3 42 "java/lang/IllegalStateException", Cond.initialized "java/lang/IllegalStateException", Cond.fieldLink RX3 10 "LampRoom" "lamps" "LLampRoom$Lamps;", Cond.methodLink RX3 97 yX3_checkLamp, Cond.instanceMethod yX3_checkLamp, Cond.selects RX3 yX3_checkLamp yX3_checkLamp, Cond.code yX3_checkLamp cX3_checkLamp 2 none, Cond.classLink RX3 149 "java/lang/IndexOutOfBoundsException", Cond.initialized "java/lang/IndexOutOfBoundsException", Cond.methodLink RX3 38 yX1_size, Cond.instanceMethod yX1_size, Cond.selects RX1 yX1_size yX1_size, Cond.initialized RX1, Cond.code yX1_size cX1_size 1 (some .int), Cond.fieldLink RX1 32 "LampRoom$Lamps" "count" "I", Cond.methodLink RX3 100 yX1_placeAt, Cond.instanceMethod yX1_placeAt]
def wsL_test_r2 : List Cond := [Cond.selects RX1 yX1_placeAt yX1_placeAt, Cond.code yX1_placeAt cX1_placeAt 2 (some .int), Cond.fieldLink RX1 15 "LampRoom$Lamps" "places" "[I", Cond.methodLink RX3 105 yX1_faultAt, Cond.instanceMethod yX1_faultAt, Cond.selects RX1 yX1_faultAt yX1_faultAt, Cond.code yX1_faultAt cX1_faultAt 2 (some .int), Cond.fieldLink RX1 21 "LampRoom$Lamps" "leaks" "[Z", Cond.fieldLink RX1 29 "LampRoom$Lamps" "capacities" "[D", Cond.constantDouble RX1 42 (4604930618986332160), Cond.fieldLink RX1 9 "LampRoom$Lamps" "kinds" "[I", Cond.methodLink RX1 36 yX1_newCapacity, Cond.static yX1_newCapacity, Cond.code yX1_newCapacity cX1_newCapacity 1 (some .double), Cond.constantDouble RX1 60 (4622945017495814144), Cond.constantDouble RX1 62 (4625196817309499392), Cond.constantDouble RX1 64 (4626322717216342016), Cond.methodLink RX3 75 yX1_moveTo, Cond.instanceMethod yX1_moveTo, Cond.selects RX1 yX1_moveTo yX1_moveTo, Cond.code yX1_moveTo cX1_moveTo 3 none]
def wsL_test : List Cond := .codeWith yL_test cL_test 4 (some .int) [(0, 9, 12, 23), (0, 9, 15, 15)] :: ((wsL_test_r1 ++ wsL_test_r2) ++ wsX30 ++ wsX10 ++ (vx_atS RX3 46 "java/lang/IllegalStateException" ["java/lang/RuntimeException", "java/lang/Exception"]).filter goodWord ++ (vx_atS RX3 153 "java/lang/IndexOutOfBoundsException" ["java/lang/RuntimeException", "java/lang/Exception"]).filter goodWord)
def wsL_mend_r1 : List Cond := [Cond.classLink RL 23 "java/lang/IndexOutOfBoundsException", Cond.classLink RL 15 "java/lang/IllegalStateException", Cond.methodLink RL 31 yX3_mend, Cond.instanceMethod yX3_mend, Cond.selects RX3 yX3_mend yX3_mend, Cond.initialized RX3, Cond.code yX3_mend cX3_mend 3 (some .boolean), Cond.classLink RX3 42 "java/lang/IllegalStateException", Cond.initialized "java/lang/IllegalStateException", Cond.fieldLink RX3 10 "LampRoom" "lamps" "LLampRoom$Lamps;", Cond.methodLink RX3 97 yX3_checkLamp, Cond.instanceMethod yX3_checkLamp, Cond.selects RX3 yX3_checkLamp yX3_checkLamp, Cond.code yX3_checkLamp cX3_checkLamp 2 none, Cond.classLink RX3 149 "java/lang/IndexOutOfBoundsException", Cond.initialized "java/lang/IndexOutOfBoundsException", Cond.methodLink RX3 38 yX1_size, Cond.instanceMethod yX1_size, Cond.selects RX1 yX1_size yX1_size, Cond.initialized RX1, Cond.code yX1_size cX1_size 1 (some .int), Cond.fieldLink RX1 32 "LampRoom$Lamps" "count" "I", Cond.methodLink RX3 100 yX1_placeAt, Cond.instanceMethod yX1_placeAt]
def wsL_mend_r2 : List Cond := [Cond.selects RX1 yX1_placeAt yX1_placeAt, Cond.code yX1_placeAt cX1_placeAt 2 (some .int), Cond.fieldLink RX1 15 "LampRoom$Lamps" "places" "[I", Cond.methodLink RX3 110 yX1_endLeak, Cond.instanceMethod yX1_endLeak, Cond.selects RX1 yX1_endLeak yX1_endLeak, Cond.code yX1_endLeak cX1_endLeak 2 none, Cond.fieldLink RX1 21 "LampRoom$Lamps" "leaks" "[Z", Cond.methodLink RX3 105 yX1_faultAt, Cond.instanceMethod yX1_faultAt, Cond.selects RX1 yX1_faultAt yX1_faultAt, Cond.code yX1_faultAt cX1_faultAt 2 (some .int), Cond.fieldLink RX1 29 "LampRoom$Lamps" "capacities" "[D", Cond.constantDouble RX1 42 (4604930618986332160), Cond.fieldLink RX1 9 "LampRoom$Lamps" "kinds" "[I", Cond.methodLink RX1 36 yX1_newCapacity, Cond.static yX1_newCapacity, Cond.code yX1_newCapacity cX1_newCapacity 1 (some .double), Cond.constantDouble RX1 60 (4622945017495814144), Cond.constantDouble RX1 62 (4625196817309499392), Cond.constantDouble RX1 64 (4626322717216342016), Cond.methodLink RX3 75 yX1_moveTo, Cond.instanceMethod yX1_moveTo, Cond.selects RX1 yX1_moveTo yX1_moveTo]
def wsL_mend_r3 : List Cond := [Cond.code yX1_moveTo cX1_moveTo 3 none]
def wsL_mend : List Cond := .codeWith yL_mend cL_mend 4 (some .int) [(0, 16, 19, 23), (0, 16, 22, 15)] :: ((wsL_mend_r1 ++ (wsL_mend_r2 ++ wsL_mend_r3)) ++ wsX30 ++ wsX10 ++ (vx_atS RX3 46 "java/lang/IllegalStateException" ["java/lang/RuntimeException", "java/lang/Exception"]).filter goodWord ++ (vx_atS RX3 153 "java/lang/IndexOutOfBoundsException" ["java/lang/RuntimeException", "java/lang/Exception"]).filter goodWord)
def wsL_hours_r1 : List Cond := [Cond.classLink RL 13 "java/lang/IllegalArgumentException", Cond.methodLink RL 35 yX3_hours, Cond.instanceMethod yX3_hours, Cond.selects RX3 yX3_hours yX3_hours, Cond.initialized RX3, Cond.code yX3_hours cX3_hours 4 (some .int), Cond.classLink RX3 113 "java/lang/IllegalArgumentException", Cond.initialized "java/lang/IllegalArgumentException", Cond.methodLink RX3 118 yX3_passHour, Cond.instanceMethod yX3_passHour, Cond.selects RX3 yX3_passHour yX3_passHour, Cond.code yX3_passHour cX3_passHour 4 (some .int), Cond.fieldLink RX3 30 "LampRoom" "clock" "I", Cond.fieldLink RX3 10 "LampRoom" "lamps" "LLampRoom$Lamps;", Cond.fieldLink RX3 19 "LampRoom" "tallies" "LLampRoom$Tallies;", Cond.methodLink RX3 156 yX1_burn, Cond.instanceMethod yX1_burn, Cond.selects RX1 yX1_burn yX1_burn, Cond.initialized RX1, Cond.code yX1_burn cX1_burn 4 none, Cond.fieldLink RX1 32 "LampRoom$Lamps" "count" "I", Cond.fieldLink RX1 15 "LampRoom$Lamps" "places" "[I", Cond.fieldLink RX1 21 "LampRoom$Lamps" "leaks" "[Z", Cond.constantDouble RX1 54 (4609434218613702656)]
def wsL_hours_r2 : List Cond := [Cond.fieldLink RX1 25 "LampRoom$Lamps" "charges" "[D", Cond.methodLink RX3 159 yX1_load, Cond.instanceMethod yX1_load, Cond.selects RX1 yX1_load yX1_load, Cond.code yX1_load cX1_load 5 none, Cond.fieldLink RX1 29 "LampRoom$Lamps" "capacities" "[D", Cond.constantDouble RX1 56 (4612811918334230528), Cond.methodLink RX3 53 yX2_size, Cond.instanceMethod yX2_size, Cond.selects RX2 yX2_size yX2_size, Cond.initialized RX2, Cond.code yX2_size cX2_size 1 (some .int), Cond.fieldLink RX2 24 "LampRoom$Tallies" "count" "I", Cond.methodLink RX3 62 yX2_lampHeld, Cond.instanceMethod yX2_lampHeld, Cond.selects RX2 yX2_lampHeld yX2_lampHeld, Cond.code yX2_lampHeld cX2_lampHeld 2 (some .int), Cond.fieldLink RX2 15 "LampRoom$Tallies" "held" "[I", Cond.methodLink RX3 162 yX3_beginAlarms, Cond.instanceMethod yX3_beginAlarms, Cond.selects RX3 yX3_beginAlarms yX3_beginAlarms, Cond.code yX3_beginAlarms cX3_beginAlarms 4 (some .int), Cond.fieldLink RX3 26 "LampRoom" "alarms" "LLampRoom$Alarms;", Cond.methodLink RX3 85 yX2_hungAt]
def wsL_hours_r3 : List Cond := [Cond.instanceMethod yX2_hungAt, Cond.selects RX2 yX2_hungAt yX2_hungAt, Cond.code yX2_hungAt cX2_hungAt 2 (some .int), Cond.fieldLink RX2 18 "LampRoom$Tallies" "hours" "[I", Cond.methodLink RX3 166 yX0_begin, Cond.instanceMethod yX0_begin, Cond.selects RX0 yX0_begin yX0_begin, Cond.initialized RX0, Cond.code yX0_begin cX0_begin 5 (some .boolean), Cond.fieldLink RX0 9 "LampRoom$Alarms" "began" "[I", Cond.methodLink RX3 127 yX1_chargeAt, Cond.instanceMethod yX1_chargeAt, Cond.selects RX1 yX1_chargeAt yX1_chargeAt, Cond.code yX1_chargeAt cX1_chargeAt 2 (some .double)]
def wsL_hours : List Cond := .codeWith yL_hours cL_hours 4 (some .int) [(0, 9, 12, 13)] :: ((wsL_hours_r1 ++ (wsL_hours_r2 ++ wsL_hours_r3)) ++ wsX30 ++ wsX10 ++ wsX20 ++ wsX00 ++ (vx_atS RX3 117 "java/lang/IllegalArgumentException" ["java/lang/RuntimeException", "java/lang/Exception"]).filter goodWord)
def wsL_lampOf : List Cond := .codeWith yL_lampOf cL_lampOf 4 (some .int) [(0, 9, 12, 23)] :: ([.classLink RL 23 "java/lang/IndexOutOfBoundsException", .methodLink RL 38 yX3_lampOf, .instanceMethod yX3_lampOf, .selects RX3 yX3_lampOf yX3_lampOf, .initialized RX3, .code yX3_lampOf cX3_lampOf 2 (some .int), .fieldLink RX3 19 "LampRoom" "tallies" "LLampRoom$Tallies;", .methodLink RX3 59 yX3_checkMiner, .instanceMethod yX3_checkMiner, .selects RX3 yX3_checkMiner yX3_checkMiner, .code yX3_checkMiner cX3_checkMiner 2 none, .classLink RX3 149 "java/lang/IndexOutOfBoundsException", .initialized "java/lang/IndexOutOfBoundsException", .methodLink RX3 53 yX2_size, .instanceMethod yX2_size, .selects RX2 yX2_size yX2_size, .initialized RX2, .code yX2_size cX2_size 1 (some .int), .fieldLink RX2 24 "LampRoom$Tallies" "count" "I", .methodLink RX3 62 yX2_lampHeld, .instanceMethod yX2_lampHeld, .selects RX2 yX2_lampHeld yX2_lampHeld, .code yX2_lampHeld cX2_lampHeld 2 (some .int), .fieldLink RX2 15 "LampRoom$Tallies" "held" "[I"] ++ wsX30 ++ wsX20 ++ (vx_atS RX3 153 "java/lang/IndexOutOfBoundsException" ["java/lang/RuntimeException", "java/lang/Exception"]).filter goodWord)
def wsL_hoursBelow_r1 : List Cond := [Cond.classLink RL 23 "java/lang/IndexOutOfBoundsException", Cond.methodLink RL 41 yX3_hoursBelow, Cond.instanceMethod yX3_hoursBelow, Cond.selects RX3 yX3_hoursBelow yX3_hoursBelow, Cond.initialized RX3, Cond.code yX3_hoursBelow cX3_hoursBelow 2 (some .int), Cond.fieldLink RX3 19 "LampRoom" "tallies" "LLampRoom$Tallies;", Cond.fieldLink RX3 30 "LampRoom" "clock" "I", Cond.methodLink RX3 59 yX3_checkMiner, Cond.instanceMethod yX3_checkMiner, Cond.selects RX3 yX3_checkMiner yX3_checkMiner, Cond.code yX3_checkMiner cX3_checkMiner 2 none, Cond.classLink RX3 149 "java/lang/IndexOutOfBoundsException", Cond.initialized "java/lang/IndexOutOfBoundsException", Cond.methodLink RX3 53 yX2_size, Cond.instanceMethod yX2_size, Cond.selects RX2 yX2_size yX2_size, Cond.initialized RX2, Cond.code yX2_size cX2_size 1 (some .int), Cond.fieldLink RX2 24 "LampRoom$Tallies" "count" "I", Cond.methodLink RX3 62 yX2_lampHeld, Cond.instanceMethod yX2_lampHeld, Cond.selects RX2 yX2_lampHeld yX2_lampHeld, Cond.code yX2_lampHeld cX2_lampHeld 2 (some .int)]
def wsL_hoursBelow_r2 : List Cond := [Cond.fieldLink RX2 15 "LampRoom$Tallies" "held" "[I", Cond.methodLink RX3 85 yX2_hungAt, Cond.instanceMethod yX2_hungAt, Cond.selects RX2 yX2_hungAt yX2_hungAt, Cond.code yX2_hungAt cX2_hungAt 2 (some .int), Cond.fieldLink RX2 18 "LampRoom$Tallies" "hours" "[I"]
def wsL_hoursBelow : List Cond := .codeWith yL_hoursBelow cL_hoursBelow 4 (some .int) [(0, 9, 12, 23)] :: ((wsL_hoursBelow_r1 ++ wsL_hoursBelow_r2) ++ wsX30 ++ wsX20 ++ (vx_atS RX3 153 "java/lang/IndexOutOfBoundsException" ["java/lang/RuntimeException", "java/lang/Exception"]).filter goodWord)
def wsL_placeOf : List Cond := .codeWith yL_placeOf cL_placeOf 4 (some .int) [(0, 9, 12, 23)] :: ([.classLink RL 23 "java/lang/IndexOutOfBoundsException", .methodLink RL 44 yX3_placeOf, .instanceMethod yX3_placeOf, .selects RX3 yX3_placeOf yX3_placeOf, .initialized RX3, .code yX3_placeOf cX3_placeOf 2 (some .int), .fieldLink RX3 10 "LampRoom" "lamps" "LLampRoom$Lamps;", .methodLink RX3 97 yX3_checkLamp, .instanceMethod yX3_checkLamp, .selects RX3 yX3_checkLamp yX3_checkLamp, .code yX3_checkLamp cX3_checkLamp 2 none, .classLink RX3 149 "java/lang/IndexOutOfBoundsException", .initialized "java/lang/IndexOutOfBoundsException", .methodLink RX3 38 yX1_size, .instanceMethod yX1_size, .selects RX1 yX1_size yX1_size, .initialized RX1, .code yX1_size cX1_size 1 (some .int), .fieldLink RX1 32 "LampRoom$Lamps" "count" "I", .methodLink RX3 100 yX1_placeAt, .instanceMethod yX1_placeAt, .selects RX1 yX1_placeAt yX1_placeAt, .code yX1_placeAt cX1_placeAt 2 (some .int), .fieldLink RX1 15 "LampRoom$Lamps" "places" "[I"] ++ wsX30 ++ wsX10 ++ (vx_atS RX3 153 "java/lang/IndexOutOfBoundsException" ["java/lang/RuntimeException", "java/lang/Exception"]).filter goodWord)
def wsL_chargeOf : List Cond := .codeWith yL_chargeOf cL_chargeOf 4 (some .int) [(0, 8, 11, 23)] :: ([.classLink RL 23 "java/lang/IndexOutOfBoundsException", .methodLink RL 47 yX3_chargeOf, .instanceMethod yX3_chargeOf, .selects RX3 yX3_chargeOf yX3_chargeOf, .initialized RX3, .code yX3_chargeOf cX3_chargeOf 2 (some .double), .fieldLink RX3 10 "LampRoom" "lamps" "LLampRoom$Lamps;", .methodLink RX3 97 yX3_checkLamp, .instanceMethod yX3_checkLamp, .selects RX3 yX3_checkLamp yX3_checkLamp, .code yX3_checkLamp cX3_checkLamp 2 none, .classLink RX3 149 "java/lang/IndexOutOfBoundsException", .initialized "java/lang/IndexOutOfBoundsException", .methodLink RX3 38 yX1_size, .instanceMethod yX1_size, .selects RX1 yX1_size yX1_size, .initialized RX1, .code yX1_size cX1_size 1 (some .int), .fieldLink RX1 32 "LampRoom$Lamps" "count" "I", .methodLink RX3 127 yX1_chargeAt, .instanceMethod yX1_chargeAt, .selects RX1 yX1_chargeAt yX1_chargeAt, .code yX1_chargeAt cX1_chargeAt 2 (some .double), .fieldLink RX1 25 "LampRoom$Lamps" "charges" "[D"] ++ wsX30 ++ wsX10 ++ (vx_atS RX3 153 "java/lang/IndexOutOfBoundsException" ["java/lang/RuntimeException", "java/lang/Exception"]).filter goodWord)
def wsL_capacityOf : List Cond := .codeWith yL_capacityOf cL_capacityOf 4 (some .int) [(0, 8, 11, 23)] :: ([.classLink RL 23 "java/lang/IndexOutOfBoundsException", .methodLink RL 51 yX3_capacityOf, .instanceMethod yX3_capacityOf, .selects RX3 yX3_capacityOf yX3_capacityOf, .initialized RX3, .code yX3_capacityOf cX3_capacityOf 2 (some .double), .fieldLink RX3 10 "LampRoom" "lamps" "LLampRoom$Lamps;", .methodLink RX3 97 yX3_checkLamp, .instanceMethod yX3_checkLamp, .selects RX3 yX3_checkLamp yX3_checkLamp, .code yX3_checkLamp cX3_checkLamp 2 none, .classLink RX3 149 "java/lang/IndexOutOfBoundsException", .initialized "java/lang/IndexOutOfBoundsException", .methodLink RX3 38 yX1_size, .instanceMethod yX1_size, .selects RX1 yX1_size yX1_size, .initialized RX1, .code yX1_size cX1_size 1 (some .int), .fieldLink RX1 32 "LampRoom$Lamps" "count" "I", .methodLink RX3 131 yX1_capacityAt, .instanceMethod yX1_capacityAt, .selects RX1 yX1_capacityAt yX1_capacityAt, .code yX1_capacityAt cX1_capacityAt 2 (some .double), .fieldLink RX1 29 "LampRoom$Lamps" "capacities" "[D"] ++ wsX30 ++ wsX10 ++ (vx_atS RX3 153 "java/lang/IndexOutOfBoundsException" ["java/lang/RuntimeException", "java/lang/Exception"]).filter goodWord)
def wsL_turnsOf : List Cond := .codeWith yL_turnsOf cL_turnsOf 4 (some .int) [(0, 9, 12, 23)] :: ([.classLink RL 23 "java/lang/IndexOutOfBoundsException", .methodLink RL 54 yX3_turnsOf, .instanceMethod yX3_turnsOf, .selects RX3 yX3_turnsOf yX3_turnsOf, .initialized RX3, .code yX3_turnsOf cX3_turnsOf 2 (some .int), .fieldLink RX3 10 "LampRoom" "lamps" "LLampRoom$Lamps;", .methodLink RX3 97 yX3_checkLamp, .instanceMethod yX3_checkLamp, .selects RX3 yX3_checkLamp yX3_checkLamp, .code yX3_checkLamp cX3_checkLamp 2 none, .classLink RX3 149 "java/lang/IndexOutOfBoundsException", .initialized "java/lang/IndexOutOfBoundsException", .methodLink RX3 38 yX1_size, .instanceMethod yX1_size, .selects RX1 yX1_size yX1_size, .initialized RX1, .code yX1_size cX1_size 1 (some .int), .fieldLink RX1 32 "LampRoom$Lamps" "count" "I", .methodLink RX3 134 yX1_turnsAt, .instanceMethod yX1_turnsAt, .selects RX1 yX1_turnsAt yX1_turnsAt, .code yX1_turnsAt cX1_turnsAt 2 (some .int), .fieldLink RX1 18 "LampRoom$Lamps" "turns" "[I"] ++ wsX30 ++ wsX10 ++ (vx_atS RX3 153 "java/lang/IndexOutOfBoundsException" ["java/lang/RuntimeException", "java/lang/Exception"]).filter goodWord)
def wsL_ready_r1 : List Cond := [Cond.classLink RL 13 "java/lang/IllegalArgumentException", Cond.methodLink RL 57 yX3_ready, Cond.instanceMethod yX3_ready, Cond.selects RX3 yX3_ready yX3_ready, Cond.initialized RX3, Cond.code yX3_ready cX3_ready 2 (some .int), Cond.fieldLink RX3 10 "LampRoom" "lamps" "LLampRoom$Lamps;", Cond.methodLink RX3 34 yX3_checkKind, Cond.static yX3_checkKind, Cond.code yX3_checkKind cX3_checkKind 1 none, Cond.classLink RX3 113 "java/lang/IllegalArgumentException", Cond.initialized "java/lang/IllegalArgumentException", Cond.methodLink RX3 137 yX1_countIssuable, Cond.instanceMethod yX1_countIssuable, Cond.selects RX1 yX1_countIssuable yX1_countIssuable, Cond.initialized RX1, Cond.code yX1_countIssuable cX1_countIssuable 4 (some .int), Cond.fieldLink RX1 32 "LampRoom$Lamps" "count" "I", Cond.methodLink RX1 48 yX1_isIssuable, Cond.instanceMethod yX1_isIssuable, Cond.selects RX1 yX1_isIssuable yX1_isIssuable, Cond.code yX1_isIssuable cX1_isIssuable 3 (some .boolean), Cond.fieldLink RX1 9 "LampRoom$Lamps" "kinds" "[I", Cond.fieldLink RX1 15 "LampRoom$Lamps" "places" "[I"]
def wsL_ready_r2 : List Cond := [Cond.fieldLink RX1 25 "LampRoom$Lamps" "charges" "[D", Cond.constantDouble RX1 52 (4621256167635550208)]
def wsL_ready : List Cond := .codeWith yL_ready cL_ready 4 (some .int) [(0, 9, 12, 13)] :: ((wsL_ready_r1 ++ wsL_ready_r2) ++ wsX30 ++ wsX10 ++ (vx_atS RX3 117 "java/lang/IllegalArgumentException" ["java/lang/RuntimeException", "java/lang/Exception"]).filter goodWord)
def wsL_lightLeft_r1 : List Cond := [Cond.classLink RL 23 "java/lang/IndexOutOfBoundsException", Cond.methodLink RL 60 yX3_lightLeft, Cond.instanceMethod yX3_lightLeft, Cond.selects RX3 yX3_lightLeft yX3_lightLeft, Cond.initialized RX3, Cond.code yX3_lightLeft cX3_lightLeft 3 (some .int), Cond.fieldLink RX3 19 "LampRoom" "tallies" "LLampRoom$Tallies;", Cond.fieldLink RX3 10 "LampRoom" "lamps" "LLampRoom$Lamps;", Cond.methodLink RX3 59 yX3_checkMiner, Cond.instanceMethod yX3_checkMiner, Cond.selects RX3 yX3_checkMiner yX3_checkMiner, Cond.code yX3_checkMiner cX3_checkMiner 2 none, Cond.classLink RX3 149 "java/lang/IndexOutOfBoundsException", Cond.initialized "java/lang/IndexOutOfBoundsException", Cond.methodLink RX3 53 yX2_size, Cond.instanceMethod yX2_size, Cond.selects RX2 yX2_size yX2_size, Cond.initialized RX2, Cond.code yX2_size cX2_size 1 (some .int), Cond.fieldLink RX2 24 "LampRoom$Tallies" "count" "I", Cond.methodLink RX3 62 yX2_lampHeld, Cond.instanceMethod yX2_lampHeld, Cond.selects RX2 yX2_lampHeld yX2_lampHeld, Cond.code yX2_lampHeld cX2_lampHeld 2 (some .int)]
def wsL_lightLeft_r2 : List Cond := [Cond.fieldLink RX2 15 "LampRoom$Tallies" "held" "[I", Cond.methodLink RX3 127 yX1_chargeAt, Cond.instanceMethod yX1_chargeAt, Cond.selects RX1 yX1_chargeAt yX1_chargeAt, Cond.initialized RX1, Cond.code yX1_chargeAt cX1_chargeAt 2 (some .double), Cond.fieldLink RX1 25 "LampRoom$Lamps" "charges" "[D"]
def wsL_lightLeft : List Cond := .codeWith yL_lightLeft cL_lightLeft 4 (some .int) [(0, 9, 12, 23)] :: ((wsL_lightLeft_r1 ++ wsL_lightLeft_r2) ++ wsX30 ++ wsX20 ++ wsX10 ++ (vx_atS RX3 153 "java/lang/IndexOutOfBoundsException" ["java/lang/RuntimeException", "java/lang/Exception"]).filter goodWord)
def wsL_law0_r1 : List Cond := [Cond.classLink RL 8 RX3, Cond.instantiable RX3 4, Cond.initialized RX3, Cond.classLink RL 64 RX4, Cond.instantiable RX4 17, Cond.initialized RX4, Cond.arrayClass .long, Cond.arrayClass .double, Cond.methodLink RL 63 yX3_init, Cond.instanceMethod yX3_init, Cond.code yX3_init cX3_init 1 none, Cond.methodLink RX3 1 objectInit, Cond.instanceMethod objectInit, Cond.code objectInit ⟨#[0xb1]⟩ 1 none, Cond.classLink RX3 7 RX1, Cond.instantiable RX1 7, Cond.initialized RX1, Cond.fieldLink RX3 10 "LampRoom" "lamps" "LLampRoom$Lamps;", Cond.classLink RX3 16 RX2, Cond.instantiable RX2 6, Cond.initialized RX2, Cond.fieldLink RX3 19 "LampRoom" "tallies" "LLampRoom$Tallies;", Cond.classLink RX3 23 RX0, Cond.instantiable RX0 1]
def wsL_law0_r2 : List Cond := [Cond.initialized RX0, Cond.fieldLink RX3 26 "LampRoom" "alarms" "LLampRoom$Alarms;", Cond.fieldLink RX3 30 "LampRoom" "clock" "I", Cond.instanceMethod yX1_init, Cond.code yX1_init cX1_init 1 none, Cond.methodLink RX1 3 objectInit, Cond.arrayClass .int, Cond.fieldLink RX1 9 "LampRoom$Lamps" "kinds" "[I", Cond.fieldLink RX1 15 "LampRoom$Lamps" "places" "[I", Cond.fieldLink RX1 18 "LampRoom$Lamps" "turns" "[I", Cond.arrayClass .boolean, Cond.fieldLink RX1 21 "LampRoom$Lamps" "leaks" "[Z", Cond.fieldLink RX1 25 "LampRoom$Lamps" "charges" "[D", Cond.fieldLink RX1 29 "LampRoom$Lamps" "capacities" "[D", Cond.fieldLink RX1 32 "LampRoom$Lamps" "count" "I", Cond.instanceMethod yX2_init, Cond.code yX2_init cX2_init 1 none, Cond.methodLink RX2 3 objectInit, Cond.fieldLink RX2 9 "LampRoom$Tallies" "kinds" "[I", Cond.fieldLink RX2 15 "LampRoom$Tallies" "held" "[I", Cond.fieldLink RX2 18 "LampRoom$Tallies" "hours" "[I", Cond.fieldLink RX2 21 "LampRoom$Tallies" "orders" "[I", Cond.fieldLink RX2 24 "LampRoom$Tallies" "count" "I", Cond.fieldLink RX2 28 "LampRoom$Tallies" "issued" "I"]
def wsL_law0_r3 : List Cond := [Cond.instanceMethod yX0_init, Cond.code yX0_init cX0_init 1 none, Cond.methodLink RX0 3 objectInit, Cond.fieldLink RX0 9 "LampRoom$Alarms" "began" "[I", Cond.methodLink RL 66 yX4_init, Cond.instanceMethod yX4_init, Cond.code yX4_init cX4_init 1 none, Cond.methodLink RX4 1 objectInit, Cond.fieldLink RX4 7 "LampRoomModel" "kindOf" "[I", Cond.fieldLink RX4 13 "LampRoomModel" "place" "[I", Cond.fieldLink RX4 16 "LampRoomModel" "turns" "[I", Cond.fieldLink RX4 19 "LampRoomModel" "leaks" "[Z", Cond.fieldLink RX4 23 "LampRoomModel" "charge" "[D", Cond.fieldLink RX4 27 "LampRoomModel" "capacity" "[D", Cond.fieldLink RX4 30 "LampRoomModel" "wants" "[I", Cond.fieldLink RX4 33 "LampRoomModel" "lamp" "[I", Cond.fieldLink RX4 36 "LampRoomModel" "since" "[I", Cond.fieldLink RX4 39 "LampRoomModel" "board" "[I", Cond.fieldLink RX4 42 "LampRoomModel" "alarm" "[I", Cond.methodLink RL 67 yL_addLamp, Cond.static yL_addLamp, Cond.initialized RL, Cond.codeWith yL_addLamp cL_addLamp 4 (some .int) [(0, 9, 12, 13), (0, 9, 15, 15)], Cond.classLink RL 13 "java/lang/IllegalArgumentException"]
def wsL_law0_r4 : List Cond := [Cond.classLink RL 15 "java/lang/IllegalStateException", Cond.methodLink RL 7 yX3_addLamp, Cond.instanceMethod yX3_addLamp, Cond.selects RX3 yX3_addLamp yX3_addLamp, Cond.code yX3_addLamp cX3_addLamp 2 (some .int), Cond.classLink RX3 42 "java/lang/IllegalStateException", Cond.initialized "java/lang/IllegalStateException", Cond.methodLink RX3 34 yX3_checkKind, Cond.static yX3_checkKind, Cond.code yX3_checkKind cX3_checkKind 1 none, Cond.classLink RX3 113 "java/lang/IllegalArgumentException", Cond.initialized "java/lang/IllegalArgumentException", Cond.methodLink RX3 38 yX1_size, Cond.instanceMethod yX1_size, Cond.selects RX1 yX1_size yX1_size, Cond.code yX1_size cX1_size 1 (some .int), Cond.methodLink RX3 49 yX1_hangNew, Cond.instanceMethod yX1_hangNew, Cond.selects RX1 yX1_hangNew yX1_hangNew, Cond.code yX1_hangNew cX1_hangNew 3 (some .int), Cond.methodLink RX1 36 yX1_newCapacity, Cond.static yX1_newCapacity, Cond.code yX1_newCapacity cX1_newCapacity 1 (some .double), Cond.constantDouble RX1 60 (4622945017495814144)]
def wsL_law0_r5 : List Cond := [Cond.constantDouble RX1 62 (4625196817309499392), Cond.constantDouble RX1 64 (4626322717216342016), Cond.methodLink RL 72 yX4_addLamp, Cond.instanceMethod yX4_addLamp, Cond.selects RX4 yX4_addLamp yX4_addLamp, Cond.code yX4_addLamp cX4_addLamp 2 (some .int), Cond.fieldLink RX4 49 "LampRoomModel" "lamps" "I", Cond.fieldLink RX4 45 "LampRoomModel" "thrown" "I", Cond.methodLink RX4 52 yX4_in, Cond.static yX4_in, Cond.code yX4_in cX4_in 3 (some .boolean), Cond.methodLink RX4 65 yX4_full, Cond.static yX4_full, Cond.code yX4_full cX4_full 1 (some .double), Cond.constantDouble RX4 59 (4622945017495814144), Cond.constantDouble RX4 61 (4625196817309499392), Cond.constantDouble RX4 63 (4626322717216342016), Cond.methodLink RL 73 yX4_thrown, Cond.instanceMethod yX4_thrown, Cond.selects RX4 yX4_thrown yX4_thrown, Cond.code yX4_thrown cX4_thrown 1 (some .int), Cond.methodLink RL 77 yL_addMiner, Cond.static yL_addMiner, Cond.codeWith yL_addMiner cL_addMiner 4 (some .int) [(0, 9, 12, 13), (0, 9, 15, 15)]]
def wsL_law0_r6 : List Cond := [Cond.methodLink RL 17 yX3_addMiner, Cond.instanceMethod yX3_addMiner, Cond.selects RX3 yX3_addMiner yX3_addMiner, Cond.code yX3_addMiner cX3_addMiner 2 (some .int), Cond.methodLink RX3 53 yX2_size, Cond.instanceMethod yX2_size, Cond.selects RX2 yX2_size yX2_size, Cond.code yX2_size cX2_size 1 (some .int), Cond.methodLink RX3 56 yX2_enter, Cond.instanceMethod yX2_enter, Cond.selects RX2 yX2_enter yX2_enter, Cond.code yX2_enter cX2_enter 3 (some .int), Cond.methodLink RL 79 yX4_addMiner, Cond.instanceMethod yX4_addMiner, Cond.selects RX4 yX4_addMiner yX4_addMiner, Cond.code yX4_addMiner cX4_addMiner 2 (some .int), Cond.fieldLink RX4 56 "LampRoomModel" "miners" "I", Cond.methodLink RL 80 yL_issue, Cond.static yL_issue, Cond.codeWith yL_issue cL_issue 4 (some .int) [(0, 9, 12, 23), (0, 9, 15, 15)], Cond.classLink RL 23 "java/lang/IndexOutOfBoundsException", Cond.methodLink RL 20 yX3_issue, Cond.instanceMethod yX3_issue, Cond.selects RX3 yX3_issue yX3_issue]
def wsL_law0_r7 : List Cond := [Cond.code yX3_issue cX3_issue 3 (some .int), Cond.methodLink RX3 59 yX3_checkMiner, Cond.instanceMethod yX3_checkMiner, Cond.selects RX3 yX3_checkMiner yX3_checkMiner, Cond.code yX3_checkMiner cX3_checkMiner 2 none, Cond.classLink RX3 149 "java/lang/IndexOutOfBoundsException", Cond.initialized "java/lang/IndexOutOfBoundsException", Cond.methodLink RX3 62 yX2_lampHeld, Cond.instanceMethod yX2_lampHeld, Cond.selects RX2 yX2_lampHeld yX2_lampHeld, Cond.code yX2_lampHeld cX2_lampHeld 2 (some .int), Cond.methodLink RX3 67 yX2_kindAt, Cond.instanceMethod yX2_kindAt, Cond.selects RX2 yX2_kindAt yX2_kindAt, Cond.code yX2_kindAt cX2_kindAt 2 (some .int), Cond.methodLink RX3 70 yX1_bestFor, Cond.instanceMethod yX1_bestFor, Cond.selects RX1 yX1_bestFor yX1_bestFor, Cond.code yX1_bestFor cX1_bestFor 4 (some .int), Cond.methodLink RX1 44 yX1_fullestOf, Cond.instanceMethod yX1_fullestOf, Cond.selects RX1 yX1_fullestOf yX1_fullestOf, Cond.code yX1_fullestOf cX1_fullestOf 4 (some .int), Cond.methodLink RX1 48 yX1_isIssuable]
def wsL_law0_r8 : List Cond := [Cond.instanceMethod yX1_isIssuable, Cond.selects RX1 yX1_isIssuable yX1_isIssuable, Cond.code yX1_isIssuable cX1_isIssuable 3 (some .boolean), Cond.constantDouble RX1 52 (4621256167635550208), Cond.methodLink RX3 75 yX1_moveTo, Cond.instanceMethod yX1_moveTo, Cond.selects RX1 yX1_moveTo yX1_moveTo, Cond.code yX1_moveTo cX1_moveTo 3 none, Cond.methodLink RX3 79 yX2_hangUp, Cond.instanceMethod yX2_hangUp, Cond.selects RX2 yX2_hangUp yX2_hangUp, Cond.code yX2_hangUp cX2_hangUp 4 none, Cond.methodLink RL 82 yX4_issue, Cond.instanceMethod yX4_issue, Cond.selects RX4 yX4_issue yX4_issue, Cond.code yX4_issue cX4_issue 3 (some .int), Cond.fieldLink RX4 82 "LampRoomModel" "hour" "I", Cond.fieldLink RX4 85 "LampRoomModel" "below" "I", Cond.methodLink RX4 75 yX4_isMiner, Cond.instanceMethod yX4_isMiner, Cond.selects RX4 yX4_isMiner yX4_isMiner, Cond.code yX4_isMiner cX4_isMiner 2 (some .boolean), Cond.methodLink RX4 78 yX4_lampFor, Cond.instanceMethod yX4_lampFor]
def wsL_law0_r9 : List Cond := [Cond.selects RX4 yX4_lampFor yX4_lampFor, Cond.code yX4_lampFor cX4_lampFor 6 (some .int), Cond.methodLink RX4 71 yX4_isReady, Cond.instanceMethod yX4_isReady, Cond.selects RX4 yX4_isReady yX4_isReady, Cond.code yX4_isReady cX4_isReady 2 (some .boolean), Cond.constantDouble RX4 69 (4621256167635550208), Cond.methodLink RL 83 yL_back, Cond.static yL_back, Cond.codeWith yL_back cL_back 4 (some .int) [(0, 9, 12, 23), (0, 9, 15, 15)], Cond.methodLink RL 25 yX3_back, Cond.instanceMethod yX3_back, Cond.selects RX3 yX3_back yX3_back, Cond.code yX3_back cX3_back 4 (some .int), Cond.methodLink RX3 85 yX2_hungAt, Cond.instanceMethod yX2_hungAt, Cond.selects RX2 yX2_hungAt yX2_hungAt, Cond.code yX2_hungAt cX2_hungAt 2 (some .int), Cond.methodLink RX3 88 yX1_takeBack, Cond.instanceMethod yX1_takeBack, Cond.selects RX1 yX1_takeBack yX1_takeBack, Cond.code yX1_takeBack cX1_takeBack 2 none, Cond.constantDouble RX1 40 (4606912202822375178), Cond.methodLink RX3 91 yX2_takeDown]
def wsL_law0_r10 : List Cond := [Cond.instanceMethod yX2_takeDown, Cond.selects RX2 yX2_takeDown yX2_takeDown, Cond.code yX2_takeDown cX2_takeDown 2 none, Cond.methodLink RX3 94 yX0_end, Cond.instanceMethod yX0_end, Cond.selects RX0 yX0_end yX0_end, Cond.code yX0_end cX0_end 2 none, Cond.methodLink RL 85 yX4_back, Cond.instanceMethod yX4_back, Cond.selects RX4 yX4_back yX4_back, Cond.code yX4_back cX4_back 3 (some .int), Cond.constantDouble RX4 91 (4606912202822375178), Cond.methodLink RX4 93 yX4_comesOff, Cond.instanceMethod yX4_comesOff, Cond.selects RX4 yX4_comesOff yX4_comesOff, Cond.code yX4_comesOff cX4_comesOff 4 none, Cond.fieldLink RX4 88 "LampRoomModel" "alarms" "I", Cond.methodLink RL 86 yL_test, Cond.static yL_test, Cond.codeWith yL_test cL_test 4 (some .int) [(0, 9, 12, 23), (0, 9, 15, 15)], Cond.methodLink RL 28 yX3_test, Cond.instanceMethod yX3_test, Cond.selects RX3 yX3_test yX3_test, Cond.code yX3_test cX3_test 3 (some .int)]
def wsL_law0_r11 : List Cond := [Cond.methodLink RX3 97 yX3_checkLamp, Cond.instanceMethod yX3_checkLamp, Cond.selects RX3 yX3_checkLamp yX3_checkLamp, Cond.code yX3_checkLamp cX3_checkLamp 2 none, Cond.methodLink RX3 100 yX1_placeAt, Cond.instanceMethod yX1_placeAt, Cond.selects RX1 yX1_placeAt yX1_placeAt, Cond.code yX1_placeAt cX1_placeAt 2 (some .int), Cond.methodLink RX3 105 yX1_faultAt, Cond.instanceMethod yX1_faultAt, Cond.selects RX1 yX1_faultAt yX1_faultAt, Cond.code yX1_faultAt cX1_faultAt 2 (some .int), Cond.constantDouble RX1 42 (4604930618986332160), Cond.methodLink RL 88 yX4_test, Cond.instanceMethod yX4_test, Cond.selects RX4 yX4_test yX4_test, Cond.code yX4_test cX4_test 3 (some .int), Cond.methodLink RX4 99 yX4_isLamp, Cond.instanceMethod yX4_isLamp, Cond.selects RX4 yX4_isLamp yX4_isLamp, Cond.code yX4_isLamp cX4_isLamp 2 (some .boolean), Cond.methodLink RX4 102 yX4_isWeak, Cond.instanceMethod yX4_isWeak, Cond.selects RX4 yX4_isWeak yX4_isWeak]
def wsL_law0_r12 : List Cond := [Cond.code yX4_isWeak cX4_isWeak 2 (some .boolean), Cond.constantDouble RX4 97 (4604930618986332160), Cond.methodLink RL 89 yL_mend, Cond.static yL_mend, Cond.codeWith yL_mend cL_mend 4 (some .int) [(0, 16, 19, 23), (0, 16, 22, 15)], Cond.methodLink RL 31 yX3_mend, Cond.instanceMethod yX3_mend, Cond.selects RX3 yX3_mend yX3_mend, Cond.code yX3_mend cX3_mend 3 (some .boolean), Cond.methodLink RX3 110 yX1_endLeak, Cond.instanceMethod yX1_endLeak, Cond.selects RX1 yX1_endLeak yX1_endLeak, Cond.code yX1_endLeak cX1_endLeak 2 none, Cond.methodLink RL 91 yX4_mend, Cond.instanceMethod yX4_mend, Cond.selects RX4 yX4_mend yX4_mend, Cond.code yX4_mend cX4_mend 2 (some .boolean), Cond.methodLink RL 92 yL_hours, Cond.static yL_hours, Cond.codeWith yL_hours cL_hours 4 (some .int) [(0, 9, 12, 13)], Cond.methodLink RL 35 yX3_hours, Cond.instanceMethod yX3_hours, Cond.selects RX3 yX3_hours yX3_hours, Cond.code yX3_hours cX3_hours 4 (some .int)]
def wsL_law0_r13 : List Cond := [Cond.methodLink RX3 118 yX3_passHour, Cond.instanceMethod yX3_passHour, Cond.selects RX3 yX3_passHour yX3_passHour, Cond.code yX3_passHour cX3_passHour 4 (some .int), Cond.methodLink RX3 156 yX1_burn, Cond.instanceMethod yX1_burn, Cond.selects RX1 yX1_burn yX1_burn, Cond.code yX1_burn cX1_burn 4 none, Cond.constantDouble RX1 54 (4609434218613702656), Cond.methodLink RX3 159 yX1_load, Cond.instanceMethod yX1_load, Cond.selects RX1 yX1_load yX1_load, Cond.code yX1_load cX1_load 5 none, Cond.constantDouble RX1 56 (4612811918334230528), Cond.methodLink RX3 162 yX3_beginAlarms, Cond.instanceMethod yX3_beginAlarms, Cond.selects RX3 yX3_beginAlarms yX3_beginAlarms, Cond.code yX3_beginAlarms cX3_beginAlarms 4 (some .int), Cond.methodLink RX3 166 yX0_begin, Cond.instanceMethod yX0_begin, Cond.selects RX0 yX0_begin yX0_begin, Cond.code yX0_begin cX0_begin 5 (some .boolean), Cond.methodLink RX3 127 yX1_chargeAt, Cond.instanceMethod yX1_chargeAt]
def wsL_law0_r14 : List Cond := [Cond.selects RX1 yX1_chargeAt yX1_chargeAt, Cond.code yX1_chargeAt cX1_chargeAt 2 (some .double), Cond.methodLink RL 94 yX4_hours, Cond.instanceMethod yX4_hours, Cond.selects RX4 yX4_hours yX4_hours, Cond.code yX4_hours cX4_hours 4 (some .int), Cond.methodLink RX4 116 yX4_goesBy, Cond.instanceMethod yX4_goesBy, Cond.selects RX4 yX4_goesBy yX4_goesBy, Cond.code yX4_goesBy cX4_goesBy 5 (some .int), Cond.constantDouble RX4 108 (4609434218613702656), Cond.constantDouble RX4 110 (4612811918334230528), Cond.methodLink RX4 112 yX4_begins, Cond.instanceMethod yX4_begins, Cond.selects RX4 yX4_begins yX4_begins, Cond.code yX4_begins cX4_begins 3 (some .int), Cond.methodLink RX4 105 yX4_isAlarmed, Cond.instanceMethod yX4_isAlarmed, Cond.selects RX4 yX4_isAlarmed yX4_isAlarmed, Cond.code yX4_isAlarmed cX4_isAlarmed 4 (some .boolean), Cond.methodLink RL 95 yX3_below, Cond.instanceMethod yX3_below, Cond.selects RX3 yX3_below yX3_below, Cond.code yX3_below cX3_below 1 (some .int)]
def wsL_law0_r15 : List Cond := [Cond.methodLink RX3 121 yX2_onBoard, Cond.instanceMethod yX2_onBoard, Cond.selects RX2 yX2_onBoard yX2_onBoard, Cond.code yX2_onBoard cX2_onBoard 3 (some .int), Cond.methodLink RL 98 yX4_below, Cond.instanceMethod yX4_below, Cond.selects RX4 yX4_below yX4_below, Cond.code yX4_below cX4_below 1 (some .int), Cond.methodLink RL 99 yX3_board, Cond.instanceMethod yX3_board, Cond.selects RX3 yX3_board yX3_board, Cond.code yX3_board cX3_board 2 (some .int), Cond.methodLink RX3 124 yX2_onBoardAt, Cond.instanceMethod yX2_onBoardAt, Cond.selects RX2 yX2_onBoardAt yX2_onBoardAt, Cond.code yX2_onBoardAt cX2_onBoardAt 3 (some .int), Cond.methodLink RX2 31 yX2_countAhead, Cond.instanceMethod yX2_countAhead, Cond.selects RX2 yX2_countAhead yX2_countAhead, Cond.code yX2_countAhead cX2_countAhead 4 (some .int), Cond.methodLink RL 102 yX4_board, Cond.instanceMethod yX4_board, Cond.selects RX4 yX4_board yX4_board, Cond.code yX4_board cX4_board 2 (some .int)]
def wsL_law0_r16 : List Cond := [Cond.methodLink RL 103 yL_lampOf, Cond.static yL_lampOf, Cond.codeWith yL_lampOf cL_lampOf 4 (some .int) [(0, 9, 12, 23)], Cond.methodLink RL 38 yX3_lampOf, Cond.instanceMethod yX3_lampOf, Cond.selects RX3 yX3_lampOf yX3_lampOf, Cond.code yX3_lampOf cX3_lampOf 2 (some .int), Cond.methodLink RL 105 yX4_lampOf, Cond.instanceMethod yX4_lampOf, Cond.selects RX4 yX4_lampOf yX4_lampOf, Cond.code yX4_lampOf cX4_lampOf 2 (some .int), Cond.methodLink RL 106 yL_hoursBelow, Cond.static yL_hoursBelow, Cond.codeWith yL_hoursBelow cL_hoursBelow 4 (some .int) [(0, 9, 12, 23)], Cond.methodLink RL 41 yX3_hoursBelow, Cond.instanceMethod yX3_hoursBelow, Cond.selects RX3 yX3_hoursBelow yX3_hoursBelow, Cond.code yX3_hoursBelow cX3_hoursBelow 2 (some .int), Cond.methodLink RL 108 yX4_hoursBelow, Cond.instanceMethod yX4_hoursBelow, Cond.selects RX4 yX4_hoursBelow yX4_hoursBelow, Cond.code yX4_hoursBelow cX4_hoursBelow 2 (some .int), Cond.methodLink RL 109 yL_placeOf, Cond.static yL_placeOf]
def wsL_law0_r17 : List Cond := [Cond.codeWith yL_placeOf cL_placeOf 4 (some .int) [(0, 9, 12, 23)], Cond.methodLink RL 44 yX3_placeOf, Cond.instanceMethod yX3_placeOf, Cond.selects RX3 yX3_placeOf yX3_placeOf, Cond.code yX3_placeOf cX3_placeOf 2 (some .int), Cond.methodLink RL 111 yX4_placeOf, Cond.instanceMethod yX4_placeOf, Cond.selects RX4 yX4_placeOf yX4_placeOf, Cond.code yX4_placeOf cX4_placeOf 2 (some .int), Cond.methodLink RL 112 yL_chargeOf, Cond.static yL_chargeOf, Cond.codeWith yL_chargeOf cL_chargeOf 4 (some .int) [(0, 8, 11, 23)], Cond.methodLink RL 47 yX3_chargeOf, Cond.instanceMethod yX3_chargeOf, Cond.selects RX3 yX3_chargeOf yX3_chargeOf, Cond.code yX3_chargeOf cX3_chargeOf 2 (some .double), Cond.methodLink RL 115 yX4_chargeOf, Cond.instanceMethod yX4_chargeOf, Cond.selects RX4 yX4_chargeOf yX4_chargeOf, Cond.code yX4_chargeOf cX4_chargeOf 2 (some .double), Cond.methodLink RL 116 yL_capacityOf, Cond.static yL_capacityOf, Cond.codeWith yL_capacityOf cL_capacityOf 4 (some .int) [(0, 8, 11, 23)], Cond.methodLink RL 51 yX3_capacityOf]
def wsL_law0_r18 : List Cond := [Cond.instanceMethod yX3_capacityOf, Cond.selects RX3 yX3_capacityOf yX3_capacityOf, Cond.code yX3_capacityOf cX3_capacityOf 2 (some .double), Cond.methodLink RX3 131 yX1_capacityAt, Cond.instanceMethod yX1_capacityAt, Cond.selects RX1 yX1_capacityAt yX1_capacityAt, Cond.code yX1_capacityAt cX1_capacityAt 2 (some .double), Cond.methodLink RL 118 yX4_capacityOf, Cond.instanceMethod yX4_capacityOf, Cond.selects RX4 yX4_capacityOf yX4_capacityOf, Cond.code yX4_capacityOf cX4_capacityOf 2 (some .double), Cond.methodLink RL 119 yL_turnsOf, Cond.static yL_turnsOf, Cond.codeWith yL_turnsOf cL_turnsOf 4 (some .int) [(0, 9, 12, 23)], Cond.methodLink RL 54 yX3_turnsOf, Cond.instanceMethod yX3_turnsOf, Cond.selects RX3 yX3_turnsOf yX3_turnsOf, Cond.code yX3_turnsOf cX3_turnsOf 2 (some .int), Cond.methodLink RX3 134 yX1_turnsAt, Cond.instanceMethod yX1_turnsAt, Cond.selects RX1 yX1_turnsAt yX1_turnsAt, Cond.code yX1_turnsAt cX1_turnsAt 2 (some .int), Cond.methodLink RL 121 yX4_turnsOf, Cond.instanceMethod yX4_turnsOf]
def wsL_law0_r19 : List Cond := [Cond.selects RX4 yX4_turnsOf yX4_turnsOf, Cond.code yX4_turnsOf cX4_turnsOf 2 (some .int), Cond.methodLink RL 122 yL_ready, Cond.static yL_ready, Cond.codeWith yL_ready cL_ready 4 (some .int) [(0, 9, 12, 13)], Cond.methodLink RL 57 yX3_ready, Cond.instanceMethod yX3_ready, Cond.selects RX3 yX3_ready yX3_ready, Cond.code yX3_ready cX3_ready 2 (some .int), Cond.methodLink RX3 137 yX1_countIssuable, Cond.instanceMethod yX1_countIssuable, Cond.selects RX1 yX1_countIssuable yX1_countIssuable, Cond.code yX1_countIssuable cX1_countIssuable 4 (some .int), Cond.methodLink RL 124 yX4_ready, Cond.instanceMethod yX4_ready, Cond.selects RX4 yX4_ready yX4_ready, Cond.code yX4_ready cX4_ready 4 (some .int), Cond.methodLink RL 125 yX3_spares, Cond.instanceMethod yX3_spares, Cond.selects RX3 yX3_spares yX3_spares, Cond.code yX3_spares cX3_spares 4 (some .int), Cond.methodLink RX3 140 yX1_kindAt, Cond.instanceMethod yX1_kindAt, Cond.selects RX1 yX1_kindAt yX1_kindAt]
def wsL_law0_r20 : List Cond := [Cond.code yX1_kindAt cX1_kindAt 2 (some .int), Cond.methodLink RL 128 yX4_spares, Cond.instanceMethod yX4_spares, Cond.selects RX4 yX4_spares yX4_spares, Cond.code yX4_spares cX4_spares 3 (some .int), Cond.methodLink RL 129 yX3_alarm, Cond.instanceMethod yX3_alarm, Cond.selects RX3 yX3_alarm yX3_alarm, Cond.code yX3_alarm cX3_alarm 2 (some .int), Cond.methodLink RX3 141 yX0_lastingAt, Cond.instanceMethod yX0_lastingAt, Cond.selects RX0 yX0_lastingAt yX0_lastingAt, Cond.code yX0_lastingAt cX0_lastingAt 3 (some .int), Cond.methodLink RX0 15 yX0_countAhead, Cond.instanceMethod yX0_countAhead, Cond.selects RX0 yX0_countAhead yX0_countAhead, Cond.code yX0_countAhead cX0_countAhead 4 (some .int), Cond.methodLink RX0 19 yX0_isAhead, Cond.instanceMethod yX0_isAhead, Cond.selects RX0 yX0_isAhead yX0_isAhead, Cond.code yX0_isAhead cX0_isAhead 3 (some .boolean), Cond.methodLink RL 132 yX4_alarm, Cond.instanceMethod yX4_alarm, Cond.selects RX4 yX4_alarm yX4_alarm]
def wsL_law0_r21 : List Cond := [Cond.code yX4_alarm cX4_alarm 2 (some .int), Cond.methodLink RL 133 yL_lightLeft, Cond.static yL_lightLeft, Cond.codeWith yL_lightLeft cL_lightLeft 4 (some .int) [(0, 9, 12, 23)], Cond.methodLink RL 60 yX3_lightLeft, Cond.instanceMethod yX3_lightLeft, Cond.selects RX3 yX3_lightLeft yX3_lightLeft, Cond.code yX3_lightLeft cX3_lightLeft 3 (some .int), Cond.methodLink RL 135 yX4_lightLeft, Cond.instanceMethod yX4_lightLeft, Cond.selects RX4 yX4_lightLeft yX4_lightLeft, Cond.code yX4_lightLeft cX4_lightLeft 2 (some .int), Cond.methodLink RL 136 yX3_rackCharge, Cond.instanceMethod yX3_rackCharge, Cond.selects RX3 yX3_rackCharge yX3_rackCharge, Cond.code yX3_rackCharge cX3_rackCharge 1 (some .int), Cond.methodLink RX3 144 yX1_hundredthsOnRack, Cond.instanceMethod yX1_hundredthsOnRack, Cond.selects RX1 yX1_hundredthsOnRack yX1_hundredthsOnRack, Cond.code yX1_hundredthsOnRack cX1_hundredthsOnRack 6 (some .int), Cond.constantDouble RX1 58 (4636737291354636288), Cond.methodLink RL 139 yX4_rackCharge, Cond.instanceMethod yX4_rackCharge, Cond.selects RX4 yX4_rackCharge yX4_rackCharge]
def wsL_law0_r22 : List Cond := [Cond.code yX4_rackCharge cX4_rackCharge 6 (some .int), Cond.constantDouble RX4 120 (4636737291354636288)]
def wsL_law0 : List Cond := (wsL_law0_r1 ++ (wsL_law0_r2 ++ (wsL_law0_r3 ++ (wsL_law0_r4 ++ (wsL_law0_r5 ++ (wsL_law0_r6 ++ (wsL_law0_r7 ++ (wsL_law0_r8 ++ (wsL_law0_r9 ++ (wsL_law0_r10 ++ (wsL_law0_r11 ++ (wsL_law0_r12 ++ (wsL_law0_r13 ++ (wsL_law0_r14 ++ (wsL_law0_r15 ++ (wsL_law0_r16 ++ (wsL_law0_r17 ++ (wsL_law0_r18 ++ (wsL_law0_r19 ++ (wsL_law0_r20 ++ (wsL_law0_r21 ++ wsL_law0_r22))))))))))))))))))))) ++ wsX30 ++ wsX40 ++ wsX10 ++ wsX20 ++ wsX00 ++ ([] : List Cond)
def wsL_law : List Cond := wsL_law0 ++ (vx_atS RX3 46 "java/lang/IllegalStateException" ["java/lang/RuntimeException", "java/lang/Exception"]).filter goodWord ++ (vx_atS RX3 117 "java/lang/IllegalArgumentException" ["java/lang/RuntimeException", "java/lang/Exception"]).filter goodWord ++ (vx_atS RX3 153 "java/lang/IndexOutOfBoundsException" ["java/lang/RuntimeException", "java/lang/Exception"]).filter goodWord
set_option maxRecDepth 20000 in
theorem wsL_law0_r1_in : ∀ w ∈ wsL_law0_r1, w ∈ lw_tbl := fun w h => (goodIn_p wsL_law0_r1 [35, 38] (by decide +kernel) (by decide +kernel) w h).1
set_option maxRecDepth 20000 in
theorem wsL_law0_r2_in : ∀ w ∈ wsL_law0_r2, w ∈ lw_tbl := fun w h => (goodIn_p wsL_law0_r2 [43, 74] (by decide +kernel) (by decide +kernel) w h).1
set_option maxRecDepth 20000 in
theorem wsL_law0_r3_in : ∀ w ∈ wsL_law0_r3, w ∈ lw_tbl := fun w h => (goodIn_p wsL_law0_r3 [99, 521] (by decide +kernel) (by decide +kernel) w h).1
set_option maxRecDepth 20000 in
theorem wsL_law0_r4_in : ∀ w ∈ wsL_law0_r4, w ∈ lw_tbl := fun w h => (goodIn_p wsL_law0_r4 [191, 194, 266, 286, 289] (by decide +kernel) (by decide +kernel) w h).1
set_option maxRecDepth 20000 in
theorem wsL_law0_r5_in : ∀ w ∈ wsL_law0_r5, w ∈ lw_tbl := fun w h => (goodIn_p wsL_law0_r5 [582, 585, 588, 578] (by decide +kernel) (by decide +kernel) w h).1
set_option maxRecDepth 20000 in
theorem wsL_law0_r6_in : ∀ w ∈ wsL_law0_r6, w ∈ lw_tbl := fun w h => (goodIn_p wsL_law0_r6 [299, 145, 304, 595] (by decide +kernel) (by decide +kernel) w h).1
set_option maxRecDepth 20000 in
theorem wsL_law0_r7_in : ∀ w ∈ wsL_law0_r7, w ∈ lw_tbl := fun w h => (goodIn_p wsL_law0_r7 [312, 316, 149, 157, 337, 341] (by decide +kernel) (by decide +kernel) w h).1
set_option maxRecDepth 20000 in
theorem wsL_law0_r8_in : ∀ w ∈ wsL_law0_r8, w ∈ lw_tbl := fun w h => (goodIn_p wsL_law0_r8 [345, 351, 355, 599, 603] (by decide +kernel) (by decide +kernel) w h).1
set_option maxRecDepth 20000 in
theorem wsL_law0_r9_in : ∀ w ∈ wsL_law0_r9, w ∈ lw_tbl := fun w h => (goodIn_p wsL_law0_r9 [607, 611, 362, 367, 371] (by decide +kernel) (by decide +kernel) w h).1
set_option maxRecDepth 20000 in
theorem wsL_law0_r10_in : ∀ w ∈ wsL_law0_r10, w ∈ lw_tbl := fun w h => (goodIn_p wsL_law0_r10 [376, 380, 616, 621, 387] (by decide +kernel) (by decide +kernel) w h).1
set_option maxRecDepth 20000 in
theorem wsL_law0_r11_in : ∀ w ∈ wsL_law0_r11, w ∈ lw_tbl := fun w h => (goodIn_p wsL_law0_r11 [391, 396, 401, 625, 629] (by decide +kernel) (by decide +kernel) w h).1
set_option maxRecDepth 20000 in
theorem wsL_law0_r12_in : ∀ w ∈ wsL_law0_r12, w ∈ lw_tbl := fun w h => (goodIn_p wsL_law0_r12 [633, 409, 414, 638, 421] (by decide +kernel) (by decide +kernel) w h).1
set_option maxRecDepth 20000 in
theorem wsL_law0_r13_in : ∀ w ∈ wsL_law0_r13, w ∈ lw_tbl := fun w h => (goodIn_p wsL_law0_r13 [426, 430, 435, 440, 444] (by decide +kernel) (by decide +kernel) w h).1
set_option maxRecDepth 20000 in
theorem wsL_law0_r14_in : ∀ w ∈ wsL_law0_r14, w ∈ lw_tbl := fun w h => (goodIn_p wsL_law0_r14 [448, 642, 646, 652, 656, 121] (by decide +kernel) (by decide +kernel) w h).1
set_option maxRecDepth 20000 in
theorem wsL_law0_r15_in : ∀ w ∈ wsL_law0_r15, w ∈ lw_tbl := fun w h => (goodIn_p wsL_law0_r15 [125, 660, 129, 133, 137, 664] (by decide +kernel) (by decide +kernel) w h).1
set_option maxRecDepth 20000 in
theorem wsL_law0_r16_in : ∀ w ∈ wsL_law0_r16, w ∈ lw_tbl := fun w h => (goodIn_p wsL_law0_r16 [455, 668, 462, 672] (by decide +kernel) (by decide +kernel) w h).1
set_option maxRecDepth 20000 in
theorem wsL_law0_r17_in : ∀ w ∈ wsL_law0_r17, w ∈ lw_tbl := fun w h => (goodIn_p wsL_law0_r17 [469, 676, 476, 680] (by decide +kernel) (by decide +kernel) w h).1
set_option maxRecDepth 20000 in
theorem wsL_law0_r18_in : ∀ w ∈ wsL_law0_r18, w ∈ lw_tbl := fun w h => (goodIn_p wsL_law0_r18 [483, 487, 684, 494, 498] (by decide +kernel) (by decide +kernel) w h).1
set_option maxRecDepth 20000 in
theorem wsL_law0_r19_in : ∀ w ∈ wsL_law0_r19, w ∈ lw_tbl := fun w h => (goodIn_p wsL_law0_r19 [688, 505, 509, 692, 141] (by decide +kernel) (by decide +kernel) w h).1
set_option maxRecDepth 20000 in
theorem wsL_law0_r20_in : ∀ w ∈ wsL_law0_r20, w ∈ lw_tbl := fun w h => (goodIn_p wsL_law0_r20 [153, 696, 161, 165, 169, 173] (by decide +kernel) (by decide +kernel) w h).1
set_option maxRecDepth 20000 in
theorem wsL_law0_r21_in : ∀ w ∈ wsL_law0_r21, w ∈ lw_tbl := fun w h => (goodIn_p wsL_law0_r21 [700, 516, 704, 177, 181] (by decide +kernel) (by decide +kernel) w h).1
set_option maxRecDepth 20000 in
theorem wsL_law0_r22_in : ∀ w ∈ wsL_law0_r22, w ∈ lw_tbl := fun w h => (goodIn_p wsL_law0_r22 [708] (by decide +kernel) (by decide +kernel) w h).1
set_option maxRecDepth 20000 in
theorem wsX30_tb : ∀ w ∈ wsX30, w ∈ lw_tbl := by decide +kernel
set_option maxRecDepth 20000 in
theorem wsX40_tb : ∀ w ∈ wsX40, w ∈ lw_tbl := by decide +kernel
set_option maxRecDepth 20000 in
theorem wsX10_tb : ∀ w ∈ wsX10, w ∈ lw_tbl := by decide +kernel
set_option maxRecDepth 20000 in
theorem wsX20_tb : ∀ w ∈ wsX20, w ∈ lw_tbl := by decide +kernel
set_option maxRecDepth 20000 in
theorem wsX00_tb : ∀ w ∈ wsX00, w ∈ lw_tbl := by decide +kernel
theorem wsL_law_in0 : ∀ w ∈ wsL_law0, w ∈ lw_tbl := List.forall_mem_append.mpr ⟨(List.forall_mem_append.mpr ⟨(List.forall_mem_append.mpr ⟨(List.forall_mem_append.mpr ⟨(List.forall_mem_append.mpr ⟨(List.forall_mem_append.mpr ⟨(List.forall_mem_append.mpr ⟨wsL_law0_r1_in, (List.forall_mem_append.mpr ⟨wsL_law0_r2_in, (List.forall_mem_append.mpr ⟨wsL_law0_r3_in, (List.forall_mem_append.mpr ⟨wsL_law0_r4_in, (List.forall_mem_append.mpr ⟨wsL_law0_r5_in, (List.forall_mem_append.mpr ⟨wsL_law0_r6_in, (List.forall_mem_append.mpr ⟨wsL_law0_r7_in, (List.forall_mem_append.mpr ⟨wsL_law0_r8_in, (List.forall_mem_append.mpr ⟨wsL_law0_r9_in, (List.forall_mem_append.mpr ⟨wsL_law0_r10_in, (List.forall_mem_append.mpr ⟨wsL_law0_r11_in, (List.forall_mem_append.mpr ⟨wsL_law0_r12_in, (List.forall_mem_append.mpr ⟨wsL_law0_r13_in, (List.forall_mem_append.mpr ⟨wsL_law0_r14_in, (List.forall_mem_append.mpr ⟨wsL_law0_r15_in, (List.forall_mem_append.mpr ⟨wsL_law0_r16_in, (List.forall_mem_append.mpr ⟨wsL_law0_r17_in, (List.forall_mem_append.mpr ⟨wsL_law0_r18_in, (List.forall_mem_append.mpr ⟨wsL_law0_r19_in, (List.forall_mem_append.mpr ⟨wsL_law0_r20_in, (List.forall_mem_append.mpr ⟨wsL_law0_r21_in, wsL_law0_r22_in⟩)⟩)⟩)⟩)⟩)⟩)⟩)⟩)⟩)⟩)⟩)⟩)⟩)⟩)⟩)⟩)⟩)⟩)⟩)⟩)⟩), wsX30_tb⟩), wsX40_tb⟩), wsX10_tb⟩), wsX20_tb⟩), wsX00_tb⟩), fun _ h => absurd h List.not_mem_nil⟩
theorem wsL_law_x0 : ∀ w ∈ (vx_atS RX3 46 "java/lang/IllegalStateException" ["java/lang/RuntimeException", "java/lang/Exception"]).filter goodWord, w ∈ lw_tbl := by decide +kernel
theorem wsL_law_x1 : ∀ w ∈ (vx_atS RX3 117 "java/lang/IllegalArgumentException" ["java/lang/RuntimeException", "java/lang/Exception"]).filter goodWord, w ∈ lw_tbl := by decide +kernel
theorem wsL_law_x2 : ∀ w ∈ (vx_atS RX3 153 "java/lang/IndexOutOfBoundsException" ["java/lang/RuntimeException", "java/lang/Exception"]).filter goodWord, w ∈ lw_tbl := by decide +kernel
theorem wsL_law_in : ∀ w ∈ wsL_law, w ∈ lw_tbl := fun w h => (List.mem_append.mp h).elim (fun h => (List.mem_append.mp h).elim (fun h => (List.mem_append.mp h).elim (fun h => wsL_law_in0 w h) (fun h => wsL_law_x0 w h)) (fun h => wsL_law_x1 w h)) (fun h => wsL_law_x2 w h)
theorem inlX0 : ∀ w ∈ wsX00, w ∈ wsL_law := fun _ h => List.mem_append_left _ (List.mem_append_left _ (List.mem_append_left _ (List.mem_append_left _ (List.mem_append_right _ h))))
theorem inX0 : ∀ w ∈ wsX00, w ∈ lw_tbl := fun w h => wsL_law_in w (inlX0 w h)
theorem inlX1 : ∀ w ∈ wsX10, w ∈ wsL_law := fun _ h => List.mem_append_left _ (List.mem_append_left _ (List.mem_append_left _ (List.mem_append_left _ (List.mem_append_left _ (List.mem_append_left _ (List.mem_append_right _ h))))))
theorem inX1 : ∀ w ∈ wsX10, w ∈ lw_tbl := fun w h => wsL_law_in w (inlX1 w h)
theorem inlX2 : ∀ w ∈ wsX20, w ∈ wsL_law := fun _ h => List.mem_append_left _ (List.mem_append_left _ (List.mem_append_left _ (List.mem_append_left _ (List.mem_append_left _ (List.mem_append_right _ h)))))
theorem inX2 : ∀ w ∈ wsX20, w ∈ lw_tbl := fun w h => wsL_law_in w (inlX2 w h)
theorem inlX3 : ∀ w ∈ wsX30, w ∈ wsL_law := fun _ h => List.mem_append_left _ (List.mem_append_left _ (List.mem_append_left _ (List.mem_append_left _ (List.mem_append_left _ (List.mem_append_left _ (List.mem_append_left _ (List.mem_append_left _ (List.mem_append_right _ h))))))))
theorem inX3 : ∀ w ∈ wsX30, w ∈ lw_tbl := fun w h => wsL_law_in w (inlX3 w h)
theorem inlX4 : ∀ w ∈ wsX40, w ∈ wsL_law := fun _ h => List.mem_append_left _ (List.mem_append_left _ (List.mem_append_left _ (List.mem_append_left _ (List.mem_append_left _ (List.mem_append_left _ (List.mem_append_left _ (List.mem_append_right _ h)))))))
theorem inX4 : ∀ w ∈ wsX40, w ∈ lw_tbl := fun w h => wsL_law_in w (inlX4 w h)
theorem inJ0 : ∀ w ∈ wsJ00, w ∈ lw_tbl := by decide +kernel
end
section
theorem dX0_init_0 : decode cX0_init 0 = .ok (.aload_n 0, 1) := by decide +kernel
theorem dX0_init_1 : decode cX0_init 1 = .ok (.invokespecial 3, 3) := by decide +kernel
theorem dX0_init_4 : decode cX0_init 4 = .ok (.aload_n 0, 1) := by decide +kernel
theorem dX0_init_5 : decode cX0_init 5 = .ok (.bipush 60, 2) := by decide +kernel
theorem dX0_init_7 : decode cX0_init 7 = .ok (.newarray .int, 2) := by decide +kernel
theorem dX0_init_9 : decode cX0_init 9 = .ok (.putfield 9, 3) := by decide +kernel
theorem dX0_init_12 : decode cX0_init 12 = .ok (.return_, 1) := by decide +kernel
theorem dX0_begin_0 : decode cX0_begin 0 = .ok (.iconst 2, 1) := by decide +kernel
theorem dX0_begin_1 : decode cX0_begin 1 = .ok (.iload_n 1, 1) := by decide +kernel
theorem dX0_begin_2 : decode cX0_begin 2 = .ok (.imul, 1) := by decide +kernel
theorem dX0_begin_3 : decode cX0_begin 3 = .ok (.iload_n 2, 1) := by decide +kernel
theorem dX0_begin_4 : decode cX0_begin 4 = .ok (.iadd, 1) := by decide +kernel
theorem dX0_begin_5 : decode cX0_begin 5 = .ok (.istore 4, 2) := by decide +kernel
theorem dX0_begin_7 : decode cX0_begin 7 = .ok (.aload_n 0, 1) := by decide +kernel
theorem dX0_begin_8 : decode cX0_begin 8 = .ok (.getfield 9, 3) := by decide +kernel
theorem dX0_begin_11 : decode cX0_begin 11 = .ok (.iload 4, 2) := by decide +kernel
theorem dX0_begin_13 : decode cX0_begin 13 = .ok (.iaload, 1) := by decide +kernel
theorem dX0_begin_14 : decode cX0_begin 14 = .ok (.ifCond .eq 5, 3) := by decide +kernel
theorem dX0_begin_17 : decode cX0_begin 17 = .ok (.iconst 0, 1) := by decide +kernel
theorem dX0_begin_18 : decode cX0_begin 18 = .ok (.ireturn, 1) := by decide +kernel
theorem dX0_begin_19 : decode cX0_begin 19 = .ok (.aload_n 0, 1) := by decide +kernel
theorem dX0_begin_20 : decode cX0_begin 20 = .ok (.getfield 9, 3) := by decide +kernel
theorem dX0_begin_23 : decode cX0_begin 23 = .ok (.iload 4, 2) := by decide +kernel
theorem dX0_begin_25 : decode cX0_begin 25 = .ok (.iload_n 3, 1) := by decide +kernel
theorem dX0_begin_26 : decode cX0_begin 26 = .ok (.iastore, 1) := by decide +kernel
theorem dX0_begin_27 : decode cX0_begin 27 = .ok (.iconst 1, 1) := by decide +kernel
theorem dX0_begin_28 : decode cX0_begin 28 = .ok (.ireturn, 1) := by decide +kernel
theorem dX0_end_0 : decode cX0_end 0 = .ok (.aload_n 0, 1) := by decide +kernel
theorem dX0_end_1 : decode cX0_end 1 = .ok (.getfield 9, 3) := by decide +kernel
theorem dX0_end_4 : decode cX0_end 4 = .ok (.iconst 2, 1) := by decide +kernel
theorem dX0_end_5 : decode cX0_end 5 = .ok (.iload_n 1, 1) := by decide +kernel
theorem dX0_end_6 : decode cX0_end 6 = .ok (.imul, 1) := by decide +kernel
theorem dX0_end_7 : decode cX0_end 7 = .ok (.iconst 0, 1) := by decide +kernel
theorem dX0_end_8 : decode cX0_end 8 = .ok (.iadd, 1) := by decide +kernel
theorem dX0_end_9 : decode cX0_end 9 = .ok (.iconst 0, 1) := by decide +kernel
theorem dX0_end_10 : decode cX0_end 10 = .ok (.iastore, 1) := by decide +kernel
theorem dX0_end_11 : decode cX0_end 11 = .ok (.aload_n 0, 1) := by decide +kernel
theorem dX0_end_12 : decode cX0_end 12 = .ok (.getfield 9, 3) := by decide +kernel
theorem dX0_end_15 : decode cX0_end 15 = .ok (.iconst 2, 1) := by decide +kernel
theorem dX0_end_16 : decode cX0_end 16 = .ok (.iload_n 1, 1) := by decide +kernel
theorem dX0_end_17 : decode cX0_end 17 = .ok (.imul, 1) := by decide +kernel
theorem dX0_end_18 : decode cX0_end 18 = .ok (.iconst 1, 1) := by decide +kernel
theorem dX0_end_19 : decode cX0_end 19 = .ok (.iadd, 1) := by decide +kernel
theorem dX0_end_20 : decode cX0_end 20 = .ok (.iconst 0, 1) := by decide +kernel
theorem dX0_end_21 : decode cX0_end 21 = .ok (.iastore, 1) := by decide +kernel
theorem dX0_end_22 : decode cX0_end 22 = .ok (.return_, 1) := by decide +kernel
set_option maxRecDepth 20000 in
theorem ggX0_lastingAt_X0_countAhead : GoodIn wsX0_lastingAt wsX0_countAhead := goodIn_r _ [6, 1, 7, 8, 9, 5, 10, 11] (by decide +kernel) (by decide +kernel)
set_option maxRecDepth 20000 in
theorem gX0_lastingAt_X0_countAhead : GoodIn wsX0_lastingAt (wsV RX0 15 RX0 yX0_countAhead wsX0_countAhead) := goodIn_app (goodIn_of _ (by decide +kernel)) ggX0_lastingAt_X0_countAhead
theorem dX0_lastingAt_0 : decode cX0_lastingAt 0 = .ok (.iconst 0, 1) := by decide +kernel
theorem dX0_lastingAt_1 : decode cX0_lastingAt 1 = .ok (.istore_n 2, 1) := by decide +kernel
theorem dX0_lastingAt_2 : decode cX0_lastingAt 2 = .ok (.iload_n 2, 1) := by decide +kernel
theorem dX0_lastingAt_3 : decode cX0_lastingAt 3 = .ok (.aload_n 0, 1) := by decide +kernel
theorem dX0_lastingAt_4 : decode cX0_lastingAt 4 = .ok (.getfield 9, 3) := by decide +kernel
theorem dX0_lastingAt_7 : decode cX0_lastingAt 7 = .ok (.arraylength, 1) := by decide +kernel
theorem dX0_lastingAt_8 : decode cX0_lastingAt 8 = .ok (.if_icmp .ge 29, 3) := by decide +kernel
theorem dX0_lastingAt_11 : decode cX0_lastingAt 11 = .ok (.aload_n 0, 1) := by decide +kernel
theorem dX0_lastingAt_12 : decode cX0_lastingAt 12 = .ok (.getfield 9, 3) := by decide +kernel
theorem dX0_lastingAt_15 : decode cX0_lastingAt 15 = .ok (.iload_n 2, 1) := by decide +kernel
theorem dX0_lastingAt_16 : decode cX0_lastingAt 16 = .ok (.iaload, 1) := by decide +kernel
theorem dX0_lastingAt_17 : decode cX0_lastingAt 17 = .ok (.ifCond .eq 14, 3) := by decide +kernel
theorem dX0_lastingAt_20 : decode cX0_lastingAt 20 = .ok (.aload_n 0, 1) := by decide +kernel
theorem dX0_lastingAt_21 : decode cX0_lastingAt 21 = .ok (.iload_n 2, 1) := by decide +kernel
theorem dX0_lastingAt_22 : decode cX0_lastingAt 22 = .ok (.invokevirtual 15, 3) := by decide +kernel
theorem dX0_lastingAt_25 : decode cX0_lastingAt 25 = .ok (.iload_n 1, 1) := by decide +kernel
theorem dX0_lastingAt_26 : decode cX0_lastingAt 26 = .ok (.if_icmp .ne 5, 3) := by decide +kernel
theorem dX0_lastingAt_29 : decode cX0_lastingAt 29 = .ok (.iload_n 2, 1) := by decide +kernel
theorem dX0_lastingAt_30 : decode cX0_lastingAt 30 = .ok (.ireturn, 1) := by decide +kernel
theorem dX0_lastingAt_31 : decode cX0_lastingAt 31 = .ok (.iinc 2 1, 3) := by decide +kernel
theorem dX0_lastingAt_34 : decode cX0_lastingAt 34 = .ok (.goto (-32), 3) := by decide +kernel
theorem dX0_lastingAt_37 : decode cX0_lastingAt 37 = .ok (.iconst (-1), 1) := by decide +kernel
theorem dX0_lastingAt_38 : decode cX0_lastingAt 38 = .ok (.ireturn, 1) := by decide +kernel
set_option maxRecDepth 20000 in
theorem ggX0_countAhead_X0_isAhead : GoodIn wsX0_countAhead wsX0_isAhead := goodIn_r _ [6, 1, 7] (by decide +kernel) (by decide +kernel)
set_option maxRecDepth 20000 in
theorem gX0_countAhead_X0_isAhead : GoodIn wsX0_countAhead (wsV RX0 19 RX0 yX0_isAhead wsX0_isAhead) := goodIn_app (goodIn_of _ (by decide +kernel)) ggX0_countAhead_X0_isAhead
theorem dX0_countAhead_0 : decode cX0_countAhead 0 = .ok (.iconst 0, 1) := by decide +kernel
theorem dX0_countAhead_1 : decode cX0_countAhead 1 = .ok (.istore_n 2, 1) := by decide +kernel
theorem dX0_countAhead_2 : decode cX0_countAhead 2 = .ok (.iconst 0, 1) := by decide +kernel
theorem dX0_countAhead_3 : decode cX0_countAhead 3 = .ok (.istore_n 3, 1) := by decide +kernel
theorem dX0_countAhead_4 : decode cX0_countAhead 4 = .ok (.iload_n 3, 1) := by decide +kernel
theorem dX0_countAhead_5 : decode cX0_countAhead 5 = .ok (.aload_n 0, 1) := by decide +kernel
theorem dX0_countAhead_6 : decode cX0_countAhead 6 = .ok (.getfield 9, 3) := by decide +kernel
theorem dX0_countAhead_9 : decode cX0_countAhead 9 = .ok (.arraylength, 1) := by decide +kernel
theorem dX0_countAhead_10 : decode cX0_countAhead 10 = .ok (.if_icmp .ge 30, 3) := by decide +kernel
theorem dX0_countAhead_13 : decode cX0_countAhead 13 = .ok (.aload_n 0, 1) := by decide +kernel
theorem dX0_countAhead_14 : decode cX0_countAhead 14 = .ok (.getfield 9, 3) := by decide +kernel
theorem dX0_countAhead_17 : decode cX0_countAhead 17 = .ok (.iload_n 3, 1) := by decide +kernel
theorem dX0_countAhead_18 : decode cX0_countAhead 18 = .ok (.iaload, 1) := by decide +kernel
theorem dX0_countAhead_19 : decode cX0_countAhead 19 = .ok (.ifCond .eq 15, 3) := by decide +kernel
theorem dX0_countAhead_22 : decode cX0_countAhead 22 = .ok (.aload_n 0, 1) := by decide +kernel
theorem dX0_countAhead_23 : decode cX0_countAhead 23 = .ok (.iload_n 3, 1) := by decide +kernel
theorem dX0_countAhead_24 : decode cX0_countAhead 24 = .ok (.iload_n 1, 1) := by decide +kernel
theorem dX0_countAhead_25 : decode cX0_countAhead 25 = .ok (.invokevirtual 19, 3) := by decide +kernel
theorem dX0_countAhead_28 : decode cX0_countAhead 28 = .ok (.ifCond .eq 6, 3) := by decide +kernel
theorem dX0_countAhead_31 : decode cX0_countAhead 31 = .ok (.iinc 2 1, 3) := by decide +kernel
theorem dX0_countAhead_34 : decode cX0_countAhead 34 = .ok (.iinc 3 1, 3) := by decide +kernel
theorem dX0_countAhead_37 : decode cX0_countAhead 37 = .ok (.goto (-33), 3) := by decide +kernel
theorem dX0_countAhead_40 : decode cX0_countAhead 40 = .ok (.iload_n 2, 1) := by decide +kernel
theorem dX0_countAhead_41 : decode cX0_countAhead 41 = .ok (.ireturn, 1) := by decide +kernel
theorem dX0_isAhead_0 : decode cX0_isAhead 0 = .ok (.aload_n 0, 1) := by decide +kernel
theorem dX0_isAhead_1 : decode cX0_isAhead 1 = .ok (.getfield 9, 3) := by decide +kernel
theorem dX0_isAhead_4 : decode cX0_isAhead 4 = .ok (.iload_n 1, 1) := by decide +kernel
theorem dX0_isAhead_5 : decode cX0_isAhead 5 = .ok (.iaload, 1) := by decide +kernel
theorem dX0_isAhead_6 : decode cX0_isAhead 6 = .ok (.aload_n 0, 1) := by decide +kernel
theorem dX0_isAhead_7 : decode cX0_isAhead 7 = .ok (.getfield 9, 3) := by decide +kernel
theorem dX0_isAhead_10 : decode cX0_isAhead 10 = .ok (.iload_n 2, 1) := by decide +kernel
theorem dX0_isAhead_11 : decode cX0_isAhead 11 = .ok (.iaload, 1) := by decide +kernel
theorem dX0_isAhead_12 : decode cX0_isAhead 12 = .ok (.if_icmp .lt 23, 3) := by decide +kernel
theorem dX0_isAhead_15 : decode cX0_isAhead 15 = .ok (.aload_n 0, 1) := by decide +kernel
theorem dX0_isAhead_16 : decode cX0_isAhead 16 = .ok (.getfield 9, 3) := by decide +kernel
theorem dX0_isAhead_19 : decode cX0_isAhead 19 = .ok (.iload_n 1, 1) := by decide +kernel
theorem dX0_isAhead_20 : decode cX0_isAhead 20 = .ok (.iaload, 1) := by decide +kernel
theorem dX0_isAhead_21 : decode cX0_isAhead 21 = .ok (.aload_n 0, 1) := by decide +kernel
theorem dX0_isAhead_22 : decode cX0_isAhead 22 = .ok (.getfield 9, 3) := by decide +kernel
theorem dX0_isAhead_25 : decode cX0_isAhead 25 = .ok (.iload_n 2, 1) := by decide +kernel
theorem dX0_isAhead_26 : decode cX0_isAhead 26 = .ok (.iaload, 1) := by decide +kernel
theorem dX0_isAhead_27 : decode cX0_isAhead 27 = .ok (.if_icmp .ne 12, 3) := by decide +kernel
theorem dX0_isAhead_30 : decode cX0_isAhead 30 = .ok (.iload_n 1, 1) := by decide +kernel
theorem dX0_isAhead_31 : decode cX0_isAhead 31 = .ok (.iload_n 2, 1) := by decide +kernel
theorem dX0_isAhead_32 : decode cX0_isAhead 32 = .ok (.if_icmp .ge 7, 3) := by decide +kernel
theorem dX0_isAhead_35 : decode cX0_isAhead 35 = .ok (.iconst 1, 1) := by decide +kernel
theorem dX0_isAhead_36 : decode cX0_isAhead 36 = .ok (.goto 4, 3) := by decide +kernel
theorem dX0_isAhead_39 : decode cX0_isAhead 39 = .ok (.iconst 0, 1) := by decide +kernel
theorem dX0_isAhead_40 : decode cX0_isAhead 40 = .ok (.ireturn, 1) := by decide +kernel
theorem dX1_init_0 : decode cX1_init 0 = .ok (.aload_n 0, 1) := by decide +kernel
theorem dX1_init_1 : decode cX1_init 1 = .ok (.invokespecial 3, 3) := by decide +kernel
theorem dX1_init_4 : decode cX1_init 4 = .ok (.aload_n 0, 1) := by decide +kernel
theorem dX1_init_5 : decode cX1_init 5 = .ok (.bipush 40, 2) := by decide +kernel
theorem dX1_init_7 : decode cX1_init 7 = .ok (.newarray .int, 2) := by decide +kernel
theorem dX1_init_9 : decode cX1_init 9 = .ok (.putfield 9, 3) := by decide +kernel
theorem dX1_init_12 : decode cX1_init 12 = .ok (.aload_n 0, 1) := by decide +kernel
theorem dX1_init_13 : decode cX1_init 13 = .ok (.bipush 40, 2) := by decide +kernel
theorem dX1_init_15 : decode cX1_init 15 = .ok (.newarray .int, 2) := by decide +kernel
theorem dX1_init_17 : decode cX1_init 17 = .ok (.putfield 15, 3) := by decide +kernel
theorem dX1_init_20 : decode cX1_init 20 = .ok (.aload_n 0, 1) := by decide +kernel
theorem dX1_init_21 : decode cX1_init 21 = .ok (.bipush 40, 2) := by decide +kernel
theorem dX1_init_23 : decode cX1_init 23 = .ok (.newarray .int, 2) := by decide +kernel
theorem dX1_init_25 : decode cX1_init 25 = .ok (.putfield 18, 3) := by decide +kernel
theorem dX1_init_28 : decode cX1_init 28 = .ok (.aload_n 0, 1) := by decide +kernel
theorem dX1_init_29 : decode cX1_init 29 = .ok (.bipush 40, 2) := by decide +kernel
theorem dX1_init_31 : decode cX1_init 31 = .ok (.newarray .boolean, 2) := by decide +kernel
theorem dX1_init_33 : decode cX1_init 33 = .ok (.putfield 21, 3) := by decide +kernel
theorem dX1_init_36 : decode cX1_init 36 = .ok (.aload_n 0, 1) := by decide +kernel
theorem dX1_init_37 : decode cX1_init 37 = .ok (.bipush 40, 2) := by decide +kernel
theorem dX1_init_39 : decode cX1_init 39 = .ok (.newarray .double, 2) := by decide +kernel
theorem dX1_init_41 : decode cX1_init 41 = .ok (.putfield 25, 3) := by decide +kernel
theorem dX1_init_44 : decode cX1_init 44 = .ok (.aload_n 0, 1) := by decide +kernel
theorem dX1_init_45 : decode cX1_init 45 = .ok (.bipush 40, 2) := by decide +kernel
theorem dX1_init_47 : decode cX1_init 47 = .ok (.newarray .double, 2) := by decide +kernel
theorem dX1_init_49 : decode cX1_init 49 = .ok (.putfield 29, 3) := by decide +kernel
theorem dX1_init_52 : decode cX1_init 52 = .ok (.aload_n 0, 1) := by decide +kernel
theorem dX1_init_53 : decode cX1_init 53 = .ok (.iconst 0, 1) := by decide +kernel
theorem dX1_init_54 : decode cX1_init 54 = .ok (.putfield 32, 3) := by decide +kernel
theorem dX1_init_57 : decode cX1_init 57 = .ok (.return_, 1) := by decide +kernel
theorem dX1_size_0 : decode cX1_size 0 = .ok (.aload_n 0, 1) := by decide +kernel
theorem dX1_size_1 : decode cX1_size 1 = .ok (.getfield 32, 3) := by decide +kernel
theorem dX1_size_4 : decode cX1_size 4 = .ok (.ireturn, 1) := by decide +kernel
theorem dX1_kindAt_0 : decode cX1_kindAt 0 = .ok (.aload_n 0, 1) := by decide +kernel
theorem dX1_kindAt_1 : decode cX1_kindAt 1 = .ok (.getfield 9, 3) := by decide +kernel
theorem dX1_kindAt_4 : decode cX1_kindAt 4 = .ok (.iload_n 1, 1) := by decide +kernel
theorem dX1_kindAt_5 : decode cX1_kindAt 5 = .ok (.iaload, 1) := by decide +kernel
theorem dX1_kindAt_6 : decode cX1_kindAt 6 = .ok (.ireturn, 1) := by decide +kernel
theorem dX1_placeAt_0 : decode cX1_placeAt 0 = .ok (.aload_n 0, 1) := by decide +kernel
theorem dX1_placeAt_1 : decode cX1_placeAt 1 = .ok (.getfield 15, 3) := by decide +kernel
theorem dX1_placeAt_4 : decode cX1_placeAt 4 = .ok (.iload_n 1, 1) := by decide +kernel
theorem dX1_placeAt_5 : decode cX1_placeAt 5 = .ok (.iaload, 1) := by decide +kernel
theorem dX1_placeAt_6 : decode cX1_placeAt 6 = .ok (.ireturn, 1) := by decide +kernel
theorem dX1_turnsAt_0 : decode cX1_turnsAt 0 = .ok (.aload_n 0, 1) := by decide +kernel
theorem dX1_turnsAt_1 : decode cX1_turnsAt 1 = .ok (.getfield 18, 3) := by decide +kernel
theorem dX1_turnsAt_4 : decode cX1_turnsAt 4 = .ok (.iload_n 1, 1) := by decide +kernel
theorem dX1_turnsAt_5 : decode cX1_turnsAt 5 = .ok (.iaload, 1) := by decide +kernel
theorem dX1_turnsAt_6 : decode cX1_turnsAt 6 = .ok (.ireturn, 1) := by decide +kernel
theorem dX1_chargeAt_0 : decode cX1_chargeAt 0 = .ok (.aload_n 0, 1) := by decide +kernel
theorem dX1_chargeAt_1 : decode cX1_chargeAt 1 = .ok (.getfield 25, 3) := by decide +kernel
theorem dX1_chargeAt_4 : decode cX1_chargeAt 4 = .ok (.iload_n 1, 1) := by decide +kernel
theorem dX1_chargeAt_5 : decode cX1_chargeAt 5 = .ok (.daload, 1) := by decide +kernel
theorem dX1_chargeAt_6 : decode cX1_chargeAt 6 = .ok (.dreturn, 1) := by decide +kernel
theorem dX1_capacityAt_0 : decode cX1_capacityAt 0 = .ok (.aload_n 0, 1) := by decide +kernel
theorem dX1_capacityAt_1 : decode cX1_capacityAt 1 = .ok (.getfield 29, 3) := by decide +kernel
theorem dX1_capacityAt_4 : decode cX1_capacityAt 4 = .ok (.iload_n 1, 1) := by decide +kernel
theorem dX1_capacityAt_5 : decode cX1_capacityAt 5 = .ok (.daload, 1) := by decide +kernel
theorem dX1_capacityAt_6 : decode cX1_capacityAt 6 = .ok (.dreturn, 1) := by decide +kernel
set_option maxRecDepth 20000 in
theorem ggX1_hangNew_X1_newCapacity : GoodIn wsX1_hangNew wsX1_newCapacity := goodIn_r _ [9, 10, 11, 12] (by decide +kernel) (by decide +kernel)
set_option maxRecDepth 20000 in
theorem gX1_hangNew_X1_newCapacity : GoodIn wsX1_hangNew (va_wsS RX1 36 yX1_newCapacity wsX1_newCapacity) := goodIn_app (goodIn_of _ (by decide +kernel)) ggX1_hangNew_X1_newCapacity
theorem dX1_hangNew_0 : decode cX1_hangNew 0 = .ok (.aload_n 0, 1) := by decide +kernel
theorem dX1_hangNew_1 : decode cX1_hangNew 1 = .ok (.getfield 32, 3) := by decide +kernel
theorem dX1_hangNew_4 : decode cX1_hangNew 4 = .ok (.istore_n 2, 1) := by decide +kernel
theorem dX1_hangNew_5 : decode cX1_hangNew 5 = .ok (.aload_n 0, 1) := by decide +kernel
theorem dX1_hangNew_6 : decode cX1_hangNew 6 = .ok (.getfield 9, 3) := by decide +kernel
theorem dX1_hangNew_9 : decode cX1_hangNew 9 = .ok (.iload_n 2, 1) := by decide +kernel
theorem dX1_hangNew_10 : decode cX1_hangNew 10 = .ok (.iload_n 1, 1) := by decide +kernel
theorem dX1_hangNew_11 : decode cX1_hangNew 11 = .ok (.iastore, 1) := by decide +kernel
theorem dX1_hangNew_12 : decode cX1_hangNew 12 = .ok (.aload_n 0, 1) := by decide +kernel
theorem dX1_hangNew_13 : decode cX1_hangNew 13 = .ok (.getfield 15, 3) := by decide +kernel
theorem dX1_hangNew_16 : decode cX1_hangNew 16 = .ok (.iload_n 2, 1) := by decide +kernel
theorem dX1_hangNew_17 : decode cX1_hangNew 17 = .ok (.iconst 0, 1) := by decide +kernel
theorem dX1_hangNew_18 : decode cX1_hangNew 18 = .ok (.iastore, 1) := by decide +kernel
theorem dX1_hangNew_19 : decode cX1_hangNew 19 = .ok (.aload_n 0, 1) := by decide +kernel
theorem dX1_hangNew_20 : decode cX1_hangNew 20 = .ok (.getfield 29, 3) := by decide +kernel
theorem dX1_hangNew_23 : decode cX1_hangNew 23 = .ok (.iload_n 2, 1) := by decide +kernel
theorem dX1_hangNew_24 : decode cX1_hangNew 24 = .ok (.iload_n 1, 1) := by decide +kernel
theorem dX1_hangNew_25 : decode cX1_hangNew 25 = .ok (.invokestatic 36, 3) := by decide +kernel
theorem dX1_hangNew_28 : decode cX1_hangNew 28 = .ok (.dastore, 1) := by decide +kernel
theorem dX1_hangNew_29 : decode cX1_hangNew 29 = .ok (.aload_n 0, 1) := by decide +kernel
theorem dX1_hangNew_30 : decode cX1_hangNew 30 = .ok (.getfield 25, 3) := by decide +kernel
theorem dX1_hangNew_33 : decode cX1_hangNew 33 = .ok (.iload_n 2, 1) := by decide +kernel
theorem dX1_hangNew_34 : decode cX1_hangNew 34 = .ok (.aload_n 0, 1) := by decide +kernel
theorem dX1_hangNew_35 : decode cX1_hangNew 35 = .ok (.getfield 29, 3) := by decide +kernel
theorem dX1_hangNew_38 : decode cX1_hangNew 38 = .ok (.iload_n 2, 1) := by decide +kernel
theorem dX1_hangNew_39 : decode cX1_hangNew 39 = .ok (.daload, 1) := by decide +kernel
theorem dX1_hangNew_40 : decode cX1_hangNew 40 = .ok (.dastore, 1) := by decide +kernel
theorem dX1_hangNew_41 : decode cX1_hangNew 41 = .ok (.aload_n 0, 1) := by decide +kernel
theorem dX1_hangNew_42 : decode cX1_hangNew 42 = .ok (.dup, 1) := by decide +kernel
theorem dX1_hangNew_43 : decode cX1_hangNew 43 = .ok (.getfield 32, 3) := by decide +kernel
theorem dX1_hangNew_46 : decode cX1_hangNew 46 = .ok (.iconst 1, 1) := by decide +kernel
theorem dX1_hangNew_47 : decode cX1_hangNew 47 = .ok (.iadd, 1) := by decide +kernel
theorem dX1_hangNew_48 : decode cX1_hangNew 48 = .ok (.putfield 32, 3) := by decide +kernel
theorem dX1_hangNew_51 : decode cX1_hangNew 51 = .ok (.iload_n 2, 1) := by decide +kernel
theorem dX1_hangNew_52 : decode cX1_hangNew 52 = .ok (.ireturn, 1) := by decide +kernel
theorem dX1_moveTo_0 : decode cX1_moveTo 0 = .ok (.aload_n 0, 1) := by decide +kernel
theorem dX1_moveTo_1 : decode cX1_moveTo 1 = .ok (.getfield 15, 3) := by decide +kernel
theorem dX1_moveTo_4 : decode cX1_moveTo 4 = .ok (.iload_n 1, 1) := by decide +kernel
theorem dX1_moveTo_5 : decode cX1_moveTo 5 = .ok (.iload_n 2, 1) := by decide +kernel
theorem dX1_moveTo_6 : decode cX1_moveTo 6 = .ok (.iastore, 1) := by decide +kernel
theorem dX1_moveTo_7 : decode cX1_moveTo 7 = .ok (.return_, 1) := by decide +kernel
theorem dX1_endLeak_0 : decode cX1_endLeak 0 = .ok (.aload_n 0, 1) := by decide +kernel
theorem dX1_endLeak_1 : decode cX1_endLeak 1 = .ok (.getfield 21, 3) := by decide +kernel
theorem dX1_endLeak_4 : decode cX1_endLeak 4 = .ok (.iload_n 1, 1) := by decide +kernel
theorem dX1_endLeak_5 : decode cX1_endLeak 5 = .ok (.iconst 0, 1) := by decide +kernel
theorem dX1_endLeak_6 : decode cX1_endLeak 6 = .ok (.bastore, 1) := by decide +kernel
theorem dX1_endLeak_7 : decode cX1_endLeak 7 = .ok (.return_, 1) := by decide +kernel
theorem dX1_takeBack_0 : decode cX1_takeBack 0 = .ok (.aload_n 0, 1) := by decide +kernel
theorem dX1_takeBack_1 : decode cX1_takeBack 1 = .ok (.getfield 15, 3) := by decide +kernel
theorem dX1_takeBack_4 : decode cX1_takeBack 4 = .ok (.iload_n 1, 1) := by decide +kernel
theorem dX1_takeBack_5 : decode cX1_takeBack 5 = .ok (.iconst 0, 1) := by decide +kernel
theorem dX1_takeBack_6 : decode cX1_takeBack 6 = .ok (.iastore, 1) := by decide +kernel
theorem dX1_takeBack_7 : decode cX1_takeBack 7 = .ok (.aload_n 0, 1) := by decide +kernel
theorem dX1_takeBack_8 : decode cX1_takeBack 8 = .ok (.getfield 18, 3) := by decide +kernel
theorem dX1_takeBack_11 : decode cX1_takeBack 11 = .ok (.iload_n 1, 1) := by decide +kernel
theorem dX1_takeBack_12 : decode cX1_takeBack 12 = .ok (.dup2, 1) := by decide +kernel
theorem dX1_takeBack_13 : decode cX1_takeBack 13 = .ok (.iaload, 1) := by decide +kernel
theorem dX1_takeBack_14 : decode cX1_takeBack 14 = .ok (.iconst 1, 1) := by decide +kernel
theorem dX1_takeBack_15 : decode cX1_takeBack 15 = .ok (.iadd, 1) := by decide +kernel
theorem dX1_takeBack_16 : decode cX1_takeBack 16 = .ok (.iastore, 1) := by decide +kernel
theorem dX1_takeBack_17 : decode cX1_takeBack 17 = .ok (.aload_n 0, 1) := by decide +kernel
theorem dX1_takeBack_18 : decode cX1_takeBack 18 = .ok (.getfield 18, 3) := by decide +kernel
theorem dX1_takeBack_21 : decode cX1_takeBack 21 = .ok (.iload_n 1, 1) := by decide +kernel
theorem dX1_takeBack_22 : decode cX1_takeBack 22 = .ok (.iaload, 1) := by decide +kernel
theorem dX1_takeBack_23 : decode cX1_takeBack 23 = .ok (.bipush 7, 2) := by decide +kernel
theorem dX1_takeBack_25 : decode cX1_takeBack 25 = .ok (.irem, 1) := by decide +kernel
theorem dX1_takeBack_26 : decode cX1_takeBack 26 = .ok (.ifCond .ne 10, 3) := by decide +kernel
theorem dX1_takeBack_29 : decode cX1_takeBack 29 = .ok (.aload_n 0, 1) := by decide +kernel
theorem dX1_takeBack_30 : decode cX1_takeBack 30 = .ok (.getfield 21, 3) := by decide +kernel
theorem dX1_takeBack_33 : decode cX1_takeBack 33 = .ok (.iload_n 1, 1) := by decide +kernel
theorem dX1_takeBack_34 : decode cX1_takeBack 34 = .ok (.iconst 1, 1) := by decide +kernel
theorem dX1_takeBack_35 : decode cX1_takeBack 35 = .ok (.bastore, 1) := by decide +kernel
theorem dX1_takeBack_36 : decode cX1_takeBack 36 = .ok (.aload_n 0, 1) := by decide +kernel
theorem dX1_takeBack_37 : decode cX1_takeBack 37 = .ok (.getfield 29, 3) := by decide +kernel
theorem dX1_takeBack_40 : decode cX1_takeBack 40 = .ok (.iload_n 1, 1) := by decide +kernel
theorem dX1_takeBack_41 : decode cX1_takeBack 41 = .ok (.aload_n 0, 1) := by decide +kernel
theorem dX1_takeBack_42 : decode cX1_takeBack 42 = .ok (.getfield 29, 3) := by decide +kernel
theorem dX1_takeBack_45 : decode cX1_takeBack 45 = .ok (.iload_n 1, 1) := by decide +kernel
theorem dX1_takeBack_46 : decode cX1_takeBack 46 = .ok (.daload, 1) := by decide +kernel
theorem dX1_takeBack_47 : decode cX1_takeBack 47 = .ok (.ldc2_w 40, 3) := by decide +kernel
theorem dX1_takeBack_50 : decode cX1_takeBack 50 = .ok (.dmul, 1) := by decide +kernel
theorem dX1_takeBack_51 : decode cX1_takeBack 51 = .ok (.dastore, 1) := by decide +kernel
theorem dX1_takeBack_52 : decode cX1_takeBack 52 = .ok (.aload_n 0, 1) := by decide +kernel
theorem dX1_takeBack_53 : decode cX1_takeBack 53 = .ok (.getfield 25, 3) := by decide +kernel
theorem dX1_takeBack_56 : decode cX1_takeBack 56 = .ok (.iload_n 1, 1) := by decide +kernel
theorem dX1_takeBack_57 : decode cX1_takeBack 57 = .ok (.daload, 1) := by decide +kernel
theorem dX1_takeBack_58 : decode cX1_takeBack 58 = .ok (.aload_n 0, 1) := by decide +kernel
theorem dX1_takeBack_59 : decode cX1_takeBack 59 = .ok (.getfield 29, 3) := by decide +kernel
theorem dX1_takeBack_62 : decode cX1_takeBack 62 = .ok (.iload_n 1, 1) := by decide +kernel
theorem dX1_takeBack_63 : decode cX1_takeBack 63 = .ok (.daload, 1) := by decide +kernel
theorem dX1_takeBack_64 : decode cX1_takeBack 64 = .ok (.dcmp .l, 1) := by decide +kernel
theorem dX1_takeBack_65 : decode cX1_takeBack 65 = .ok (.ifCond .le 15, 3) := by decide +kernel
theorem dX1_takeBack_68 : decode cX1_takeBack 68 = .ok (.aload_n 0, 1) := by decide +kernel
theorem dX1_takeBack_69 : decode cX1_takeBack 69 = .ok (.getfield 25, 3) := by decide +kernel
theorem dX1_takeBack_72 : decode cX1_takeBack 72 = .ok (.iload_n 1, 1) := by decide +kernel
theorem dX1_takeBack_73 : decode cX1_takeBack 73 = .ok (.aload_n 0, 1) := by decide +kernel
theorem dX1_takeBack_74 : decode cX1_takeBack 74 = .ok (.getfield 29, 3) := by decide +kernel
theorem dX1_takeBack_77 : decode cX1_takeBack 77 = .ok (.iload_n 1, 1) := by decide +kernel
theorem dX1_takeBack_78 : decode cX1_takeBack 78 = .ok (.daload, 1) := by decide +kernel
theorem dX1_takeBack_79 : decode cX1_takeBack 79 = .ok (.dastore, 1) := by decide +kernel
theorem dX1_takeBack_80 : decode cX1_takeBack 80 = .ok (.return_, 1) := by decide +kernel
set_option maxRecDepth 20000 in
theorem ggX1_faultAt_X1_newCapacity : GoodIn wsX1_faultAt wsX1_newCapacity := goodIn_r _ [8, 9, 10, 11] (by decide +kernel) (by decide +kernel)
set_option maxRecDepth 20000 in
theorem gX1_faultAt_X1_newCapacity : GoodIn wsX1_faultAt (va_wsS RX1 36 yX1_newCapacity wsX1_newCapacity) := goodIn_app (goodIn_of _ (by decide +kernel)) ggX1_faultAt_X1_newCapacity
theorem dX1_faultAt_0 : decode cX1_faultAt 0 = .ok (.aload_n 0, 1) := by decide +kernel
theorem dX1_faultAt_1 : decode cX1_faultAt 1 = .ok (.getfield 21, 3) := by decide +kernel
theorem dX1_faultAt_4 : decode cX1_faultAt 4 = .ok (.iload_n 1, 1) := by decide +kernel
theorem dX1_faultAt_5 : decode cX1_faultAt 5 = .ok (.baload, 1) := by decide +kernel
theorem dX1_faultAt_6 : decode cX1_faultAt 6 = .ok (.ifCond .eq 5, 3) := by decide +kernel
theorem dX1_faultAt_9 : decode cX1_faultAt 9 = .ok (.iconst 1, 1) := by decide +kernel
theorem dX1_faultAt_10 : decode cX1_faultAt 10 = .ok (.ireturn, 1) := by decide +kernel
theorem dX1_faultAt_11 : decode cX1_faultAt 11 = .ok (.aload_n 0, 1) := by decide +kernel
theorem dX1_faultAt_12 : decode cX1_faultAt 12 = .ok (.getfield 29, 3) := by decide +kernel
theorem dX1_faultAt_15 : decode cX1_faultAt 15 = .ok (.iload_n 1, 1) := by decide +kernel
theorem dX1_faultAt_16 : decode cX1_faultAt 16 = .ok (.daload, 1) := by decide +kernel
theorem dX1_faultAt_17 : decode cX1_faultAt 17 = .ok (.ldc2_w 42, 3) := by decide +kernel
theorem dX1_faultAt_20 : decode cX1_faultAt 20 = .ok (.aload_n 0, 1) := by decide +kernel
theorem dX1_faultAt_21 : decode cX1_faultAt 21 = .ok (.getfield 9, 3) := by decide +kernel
theorem dX1_faultAt_24 : decode cX1_faultAt 24 = .ok (.iload_n 1, 1) := by decide +kernel
theorem dX1_faultAt_25 : decode cX1_faultAt 25 = .ok (.iaload, 1) := by decide +kernel
theorem dX1_faultAt_26 : decode cX1_faultAt 26 = .ok (.invokestatic 36, 3) := by decide +kernel
theorem dX1_faultAt_29 : decode cX1_faultAt 29 = .ok (.dmul, 1) := by decide +kernel
theorem dX1_faultAt_30 : decode cX1_faultAt 30 = .ok (.dcmp .g, 1) := by decide +kernel
theorem dX1_faultAt_31 : decode cX1_faultAt 31 = .ok (.ifCond .ge 7, 3) := by decide +kernel
theorem dX1_faultAt_34 : decode cX1_faultAt 34 = .ok (.iconst 2, 1) := by decide +kernel
theorem dX1_faultAt_35 : decode cX1_faultAt 35 = .ok (.goto 4, 3) := by decide +kernel
theorem dX1_faultAt_38 : decode cX1_faultAt 38 = .ok (.iconst 0, 1) := by decide +kernel
theorem dX1_faultAt_39 : decode cX1_faultAt 39 = .ok (.ireturn, 1) := by decide +kernel
set_option maxRecDepth 20000 in
theorem ggX1_bestFor_X1_fullestOf : GoodIn wsX1_bestFor wsX1_fullestOf := goodIn_r _ [5, 6, 7, 8, 9, 10, 4, 11, 12, 13, 14, 15, 16, 17, 18, 19, 20, 21] (by decide +kernel) (by decide +kernel)
set_option maxRecDepth 20000 in
theorem gX1_bestFor_X1_fullestOf : GoodIn wsX1_bestFor (wsV RX1 44 RX1 yX1_fullestOf wsX1_fullestOf) := goodIn_app (goodIn_of _ (by decide +kernel)) ggX1_bestFor_X1_fullestOf
theorem dX1_bestFor_0 : decode cX1_bestFor 0 = .ok (.iload_n 1, 1) := by decide +kernel
theorem dX1_bestFor_1 : decode cX1_bestFor 1 = .ok (.istore_n 2, 1) := by decide +kernel
theorem dX1_bestFor_2 : decode cX1_bestFor 2 = .ok (.iload_n 2, 1) := by decide +kernel
theorem dX1_bestFor_3 : decode cX1_bestFor 3 = .ok (.iconst 3, 1) := by decide +kernel
theorem dX1_bestFor_4 : decode cX1_bestFor 4 = .ok (.if_icmp .ge 22, 3) := by decide +kernel
theorem dX1_bestFor_7 : decode cX1_bestFor 7 = .ok (.aload_n 0, 1) := by decide +kernel
theorem dX1_bestFor_8 : decode cX1_bestFor 8 = .ok (.iload_n 2, 1) := by decide +kernel
theorem dX1_bestFor_9 : decode cX1_bestFor 9 = .ok (.invokevirtual 44, 3) := by decide +kernel
theorem dX1_bestFor_12 : decode cX1_bestFor 12 = .ok (.istore_n 3, 1) := by decide +kernel
theorem dX1_bestFor_13 : decode cX1_bestFor 13 = .ok (.iload_n 3, 1) := by decide +kernel
theorem dX1_bestFor_14 : decode cX1_bestFor 14 = .ok (.iconst (-1), 1) := by decide +kernel
theorem dX1_bestFor_15 : decode cX1_bestFor 15 = .ok (.if_icmp .eq 5, 3) := by decide +kernel
theorem dX1_bestFor_18 : decode cX1_bestFor 18 = .ok (.iload_n 3, 1) := by decide +kernel
theorem dX1_bestFor_19 : decode cX1_bestFor 19 = .ok (.ireturn, 1) := by decide +kernel
theorem dX1_bestFor_20 : decode cX1_bestFor 20 = .ok (.iinc 2 1, 3) := by decide +kernel
theorem dX1_bestFor_23 : decode cX1_bestFor 23 = .ok (.goto (-21), 3) := by decide +kernel
theorem dX1_bestFor_26 : decode cX1_bestFor 26 = .ok (.iconst (-1), 1) := by decide +kernel
theorem dX1_bestFor_27 : decode cX1_bestFor 27 = .ok (.ireturn, 1) := by decide +kernel
set_option maxRecDepth 20000 in
theorem ggX1_fullestOf_X1_isIssuable : GoodIn wsX1_fullestOf wsX1_isIssuable := goodIn_r _ [7, 8, 9, 2, 10, 11, 12, 13, 14, 15, 16, 17] (by decide +kernel) (by decide +kernel)
set_option maxRecDepth 20000 in
theorem gX1_fullestOf_X1_isIssuable : GoodIn wsX1_fullestOf (wsV RX1 48 RX1 yX1_isIssuable wsX1_isIssuable) := goodIn_app (goodIn_of _ (by decide +kernel)) ggX1_fullestOf_X1_isIssuable
theorem dX1_fullestOf_0 : decode cX1_fullestOf 0 = .ok (.iconst (-1), 1) := by decide +kernel
theorem dX1_fullestOf_1 : decode cX1_fullestOf 1 = .ok (.istore_n 2, 1) := by decide +kernel
theorem dX1_fullestOf_2 : decode cX1_fullestOf 2 = .ok (.iconst 0, 1) := by decide +kernel
theorem dX1_fullestOf_3 : decode cX1_fullestOf 3 = .ok (.istore_n 3, 1) := by decide +kernel
theorem dX1_fullestOf_4 : decode cX1_fullestOf 4 = .ok (.iload_n 3, 1) := by decide +kernel
theorem dX1_fullestOf_5 : decode cX1_fullestOf 5 = .ok (.aload_n 0, 1) := by decide +kernel
theorem dX1_fullestOf_6 : decode cX1_fullestOf 6 = .ok (.getfield 32, 3) := by decide +kernel
theorem dX1_fullestOf_9 : decode cX1_fullestOf 9 = .ok (.if_icmp .ge 41, 3) := by decide +kernel
theorem dX1_fullestOf_12 : decode cX1_fullestOf 12 = .ok (.aload_n 0, 1) := by decide +kernel
theorem dX1_fullestOf_13 : decode cX1_fullestOf 13 = .ok (.iload_n 3, 1) := by decide +kernel
theorem dX1_fullestOf_14 : decode cX1_fullestOf 14 = .ok (.iload_n 1, 1) := by decide +kernel
theorem dX1_fullestOf_15 : decode cX1_fullestOf 15 = .ok (.invokevirtual 48, 3) := by decide +kernel
theorem dX1_fullestOf_18 : decode cX1_fullestOf 18 = .ok (.ifCond .eq 26, 3) := by decide +kernel
theorem dX1_fullestOf_21 : decode cX1_fullestOf 21 = .ok (.iload_n 2, 1) := by decide +kernel
theorem dX1_fullestOf_22 : decode cX1_fullestOf 22 = .ok (.iconst (-1), 1) := by decide +kernel
theorem dX1_fullestOf_23 : decode cX1_fullestOf 23 = .ok (.if_icmp .eq 19, 3) := by decide +kernel
theorem dX1_fullestOf_26 : decode cX1_fullestOf 26 = .ok (.aload_n 0, 1) := by decide +kernel
theorem dX1_fullestOf_27 : decode cX1_fullestOf 27 = .ok (.getfield 25, 3) := by decide +kernel
theorem dX1_fullestOf_30 : decode cX1_fullestOf 30 = .ok (.iload_n 3, 1) := by decide +kernel
theorem dX1_fullestOf_31 : decode cX1_fullestOf 31 = .ok (.daload, 1) := by decide +kernel
theorem dX1_fullestOf_32 : decode cX1_fullestOf 32 = .ok (.aload_n 0, 1) := by decide +kernel
theorem dX1_fullestOf_33 : decode cX1_fullestOf 33 = .ok (.getfield 25, 3) := by decide +kernel
theorem dX1_fullestOf_36 : decode cX1_fullestOf 36 = .ok (.iload_n 2, 1) := by decide +kernel
theorem dX1_fullestOf_37 : decode cX1_fullestOf 37 = .ok (.daload, 1) := by decide +kernel
theorem dX1_fullestOf_38 : decode cX1_fullestOf 38 = .ok (.dcmp .l, 1) := by decide +kernel
theorem dX1_fullestOf_39 : decode cX1_fullestOf 39 = .ok (.ifCond .le 5, 3) := by decide +kernel
theorem dX1_fullestOf_42 : decode cX1_fullestOf 42 = .ok (.iload_n 3, 1) := by decide +kernel
theorem dX1_fullestOf_43 : decode cX1_fullestOf 43 = .ok (.istore_n 2, 1) := by decide +kernel
theorem dX1_fullestOf_44 : decode cX1_fullestOf 44 = .ok (.iinc 3 1, 3) := by decide +kernel
theorem dX1_fullestOf_47 : decode cX1_fullestOf 47 = .ok (.goto (-43), 3) := by decide +kernel
theorem dX1_fullestOf_50 : decode cX1_fullestOf 50 = .ok (.iload_n 2, 1) := by decide +kernel
theorem dX1_fullestOf_51 : decode cX1_fullestOf 51 = .ok (.ireturn, 1) := by decide +kernel
set_option maxRecDepth 20000 in
theorem ggX1_countIssuable_X1_isIssuable : GoodIn wsX1_countIssuable wsX1_isIssuable := goodIn_r _ [6, 7, 8, 9, 10, 11, 12, 13, 14, 15, 16, 17] (by decide +kernel) (by decide +kernel)
set_option maxRecDepth 20000 in
theorem gX1_countIssuable_X1_isIssuable : GoodIn wsX1_countIssuable (wsV RX1 48 RX1 yX1_isIssuable wsX1_isIssuable) := goodIn_app (goodIn_of _ (by decide +kernel)) ggX1_countIssuable_X1_isIssuable
theorem dX1_countIssuable_0 : decode cX1_countIssuable 0 = .ok (.iconst 0, 1) := by decide +kernel
theorem dX1_countIssuable_1 : decode cX1_countIssuable 1 = .ok (.istore_n 2, 1) := by decide +kernel
theorem dX1_countIssuable_2 : decode cX1_countIssuable 2 = .ok (.iconst 0, 1) := by decide +kernel
theorem dX1_countIssuable_3 : decode cX1_countIssuable 3 = .ok (.istore_n 3, 1) := by decide +kernel
theorem dX1_countIssuable_4 : decode cX1_countIssuable 4 = .ok (.iload_n 3, 1) := by decide +kernel
theorem dX1_countIssuable_5 : decode cX1_countIssuable 5 = .ok (.aload_n 0, 1) := by decide +kernel
theorem dX1_countIssuable_6 : decode cX1_countIssuable 6 = .ok (.getfield 32, 3) := by decide +kernel
theorem dX1_countIssuable_9 : decode cX1_countIssuable 9 = .ok (.if_icmp .ge 21, 3) := by decide +kernel
theorem dX1_countIssuable_12 : decode cX1_countIssuable 12 = .ok (.aload_n 0, 1) := by decide +kernel
theorem dX1_countIssuable_13 : decode cX1_countIssuable 13 = .ok (.iload_n 3, 1) := by decide +kernel
theorem dX1_countIssuable_14 : decode cX1_countIssuable 14 = .ok (.iload_n 1, 1) := by decide +kernel
theorem dX1_countIssuable_15 : decode cX1_countIssuable 15 = .ok (.invokevirtual 48, 3) := by decide +kernel
theorem dX1_countIssuable_18 : decode cX1_countIssuable 18 = .ok (.ifCond .eq 6, 3) := by decide +kernel
theorem dX1_countIssuable_21 : decode cX1_countIssuable 21 = .ok (.iinc 2 1, 3) := by decide +kernel
theorem dX1_countIssuable_24 : decode cX1_countIssuable 24 = .ok (.iinc 3 1, 3) := by decide +kernel
theorem dX1_countIssuable_27 : decode cX1_countIssuable 27 = .ok (.goto (-23), 3) := by decide +kernel
theorem dX1_countIssuable_30 : decode cX1_countIssuable 30 = .ok (.iload_n 2, 1) := by decide +kernel
theorem dX1_countIssuable_31 : decode cX1_countIssuable 31 = .ok (.ireturn, 1) := by decide +kernel
theorem dX1_isIssuable_0 : decode cX1_isIssuable 0 = .ok (.aload_n 0, 1) := by decide +kernel
theorem dX1_isIssuable_1 : decode cX1_isIssuable 1 = .ok (.getfield 9, 3) := by decide +kernel
theorem dX1_isIssuable_4 : decode cX1_isIssuable 4 = .ok (.iload_n 1, 1) := by decide +kernel
theorem dX1_isIssuable_5 : decode cX1_isIssuable 5 = .ok (.iaload, 1) := by decide +kernel
theorem dX1_isIssuable_6 : decode cX1_isIssuable 6 = .ok (.iload_n 2, 1) := by decide +kernel
theorem dX1_isIssuable_7 : decode cX1_isIssuable 7 = .ok (.if_icmp .ne 29, 3) := by decide +kernel
theorem dX1_isIssuable_10 : decode cX1_isIssuable 10 = .ok (.aload_n 0, 1) := by decide +kernel
theorem dX1_isIssuable_11 : decode cX1_isIssuable 11 = .ok (.getfield 15, 3) := by decide +kernel
theorem dX1_isIssuable_14 : decode cX1_isIssuable 14 = .ok (.iload_n 1, 1) := by decide +kernel
theorem dX1_isIssuable_15 : decode cX1_isIssuable 15 = .ok (.iaload, 1) := by decide +kernel
theorem dX1_isIssuable_16 : decode cX1_isIssuable 16 = .ok (.ifCond .ne 20, 3) := by decide +kernel
theorem dX1_isIssuable_19 : decode cX1_isIssuable 19 = .ok (.aload_n 0, 1) := by decide +kernel
theorem dX1_isIssuable_20 : decode cX1_isIssuable 20 = .ok (.getfield 25, 3) := by decide +kernel
theorem dX1_isIssuable_23 : decode cX1_isIssuable 23 = .ok (.iload_n 1, 1) := by decide +kernel
theorem dX1_isIssuable_24 : decode cX1_isIssuable 24 = .ok (.daload, 1) := by decide +kernel
theorem dX1_isIssuable_25 : decode cX1_isIssuable 25 = .ok (.ldc2_w 52, 3) := by decide +kernel
theorem dX1_isIssuable_28 : decode cX1_isIssuable 28 = .ok (.dcmp .l, 1) := by decide +kernel
theorem dX1_isIssuable_29 : decode cX1_isIssuable 29 = .ok (.ifCond .lt 7, 3) := by decide +kernel
theorem dX1_isIssuable_32 : decode cX1_isIssuable 32 = .ok (.iconst 1, 1) := by decide +kernel
theorem dX1_isIssuable_33 : decode cX1_isIssuable 33 = .ok (.goto 4, 3) := by decide +kernel
theorem dX1_isIssuable_36 : decode cX1_isIssuable 36 = .ok (.iconst 0, 1) := by decide +kernel
theorem dX1_isIssuable_37 : decode cX1_isIssuable 37 = .ok (.ireturn, 1) := by decide +kernel
theorem dX1_burn_0 : decode cX1_burn 0 = .ok (.iconst 0, 1) := by decide +kernel
theorem dX1_burn_1 : decode cX1_burn 1 = .ok (.istore_n 1, 1) := by decide +kernel
theorem dX1_burn_2 : decode cX1_burn 2 = .ok (.iload_n 1, 1) := by decide +kernel
theorem dX1_burn_3 : decode cX1_burn 3 = .ok (.aload_n 0, 1) := by decide +kernel
theorem dX1_burn_4 : decode cX1_burn 4 = .ok (.getfield 32, 3) := by decide +kernel
theorem dX1_burn_7 : decode cX1_burn 7 = .ok (.if_icmp .ge 65, 3) := by decide +kernel
theorem dX1_burn_10 : decode cX1_burn 10 = .ok (.aload_n 0, 1) := by decide +kernel
theorem dX1_burn_11 : decode cX1_burn 11 = .ok (.getfield 15, 3) := by decide +kernel
theorem dX1_burn_14 : decode cX1_burn 14 = .ok (.iload_n 1, 1) := by decide +kernel
theorem dX1_burn_15 : decode cX1_burn 15 = .ok (.iaload, 1) := by decide +kernel
theorem dX1_burn_16 : decode cX1_burn 16 = .ok (.iconst 1, 1) := by decide +kernel
theorem dX1_burn_17 : decode cX1_burn 17 = .ok (.if_icmp .ne 49, 3) := by decide +kernel
theorem dX1_burn_20 : decode cX1_burn 20 = .ok (.aload_n 0, 1) := by decide +kernel
theorem dX1_burn_21 : decode cX1_burn 21 = .ok (.getfield 21, 3) := by decide +kernel
theorem dX1_burn_24 : decode cX1_burn 24 = .ok (.iload_n 1, 1) := by decide +kernel
theorem dX1_burn_25 : decode cX1_burn 25 = .ok (.baload, 1) := by decide +kernel
theorem dX1_burn_26 : decode cX1_burn 26 = .ok (.ifCond .eq 9, 3) := by decide +kernel
theorem dX1_burn_29 : decode cX1_burn 29 = .ok (.ldc2_w 54, 3) := by decide +kernel
theorem dX1_burn_32 : decode cX1_burn 32 = .ok (.goto 4, 3) := by decide +kernel
theorem dX1_burn_35 : decode cX1_burn 35 = .ok (.dconst 1, 1) := by decide +kernel
theorem dX1_burn_36 : decode cX1_burn 36 = .ok (.dstore_n 2, 1) := by decide +kernel
theorem dX1_burn_37 : decode cX1_burn 37 = .ok (.aload_n 0, 1) := by decide +kernel
theorem dX1_burn_38 : decode cX1_burn 38 = .ok (.getfield 25, 3) := by decide +kernel
theorem dX1_burn_41 : decode cX1_burn 41 = .ok (.iload_n 1, 1) := by decide +kernel
theorem dX1_burn_42 : decode cX1_burn 42 = .ok (.aload_n 0, 1) := by decide +kernel
theorem dX1_burn_43 : decode cX1_burn 43 = .ok (.getfield 25, 3) := by decide +kernel
theorem dX1_burn_46 : decode cX1_burn 46 = .ok (.iload_n 1, 1) := by decide +kernel
theorem dX1_burn_47 : decode cX1_burn 47 = .ok (.daload, 1) := by decide +kernel
theorem dX1_burn_48 : decode cX1_burn 48 = .ok (.dload_n 2, 1) := by decide +kernel
theorem dX1_burn_49 : decode cX1_burn 49 = .ok (.dcmp .l, 1) := by decide +kernel
theorem dX1_burn_50 : decode cX1_burn 50 = .ok (.ifCond .le 14, 3) := by decide +kernel
theorem dX1_burn_53 : decode cX1_burn 53 = .ok (.aload_n 0, 1) := by decide +kernel
theorem dX1_burn_54 : decode cX1_burn 54 = .ok (.getfield 25, 3) := by decide +kernel
theorem dX1_burn_57 : decode cX1_burn 57 = .ok (.iload_n 1, 1) := by decide +kernel
theorem dX1_burn_58 : decode cX1_burn 58 = .ok (.daload, 1) := by decide +kernel
theorem dX1_burn_59 : decode cX1_burn 59 = .ok (.dload_n 2, 1) := by decide +kernel
theorem dX1_burn_60 : decode cX1_burn 60 = .ok (.dsub, 1) := by decide +kernel
theorem dX1_burn_61 : decode cX1_burn 61 = .ok (.goto 4, 3) := by decide +kernel
theorem dX1_burn_64 : decode cX1_burn 64 = .ok (.dconst 0, 1) := by decide +kernel
theorem dX1_burn_65 : decode cX1_burn 65 = .ok (.dastore, 1) := by decide +kernel
theorem dX1_burn_66 : decode cX1_burn 66 = .ok (.iinc 1 1, 3) := by decide +kernel
theorem dX1_burn_69 : decode cX1_burn 69 = .ok (.goto (-67), 3) := by decide +kernel
theorem dX1_burn_72 : decode cX1_burn 72 = .ok (.return_, 1) := by decide +kernel
theorem dX1_load_0 : decode cX1_load 0 = .ok (.iconst 5, 1) := by decide +kernel
theorem dX1_load_1 : decode cX1_load 1 = .ok (.istore_n 1, 1) := by decide +kernel
theorem dX1_load_2 : decode cX1_load 2 = .ok (.iconst 0, 1) := by decide +kernel
theorem dX1_load_3 : decode cX1_load 3 = .ok (.istore_n 2, 1) := by decide +kernel
theorem dX1_load_4 : decode cX1_load 4 = .ok (.iload_n 2, 1) := by decide +kernel
theorem dX1_load_5 : decode cX1_load 5 = .ok (.aload_n 0, 1) := by decide +kernel
theorem dX1_load_6 : decode cX1_load 6 = .ok (.getfield 32, 3) := by decide +kernel
theorem dX1_load_9 : decode cX1_load 9 = .ok (.if_icmp .ge 79, 3) := by decide +kernel
theorem dX1_load_12 : decode cX1_load 12 = .ok (.iload_n 1, 1) := by decide +kernel
theorem dX1_load_13 : decode cX1_load 13 = .ok (.ifCond .le 75, 3) := by decide +kernel
theorem dX1_load_16 : decode cX1_load 16 = .ok (.aload_n 0, 1) := by decide +kernel
theorem dX1_load_17 : decode cX1_load 17 = .ok (.getfield 15, 3) := by decide +kernel
theorem dX1_load_20 : decode cX1_load 20 = .ok (.iload_n 2, 1) := by decide +kernel
theorem dX1_load_21 : decode cX1_load 21 = .ok (.iaload, 1) := by decide +kernel
theorem dX1_load_22 : decode cX1_load 22 = .ok (.ifCond .ne 60, 3) := by decide +kernel
theorem dX1_load_25 : decode cX1_load 25 = .ok (.aload_n 0, 1) := by decide +kernel
theorem dX1_load_26 : decode cX1_load 26 = .ok (.getfield 25, 3) := by decide +kernel
theorem dX1_load_29 : decode cX1_load 29 = .ok (.iload_n 2, 1) := by decide +kernel
theorem dX1_load_30 : decode cX1_load 30 = .ok (.daload, 1) := by decide +kernel
theorem dX1_load_31 : decode cX1_load 31 = .ok (.aload_n 0, 1) := by decide +kernel
theorem dX1_load_32 : decode cX1_load 32 = .ok (.getfield 29, 3) := by decide +kernel
theorem dX1_load_35 : decode cX1_load 35 = .ok (.iload_n 2, 1) := by decide +kernel
theorem dX1_load_36 : decode cX1_load 36 = .ok (.daload, 1) := by decide +kernel
theorem dX1_load_37 : decode cX1_load 37 = .ok (.dcmp .g, 1) := by decide +kernel
theorem dX1_load_38 : decode cX1_load 38 = .ok (.ifCond .ge 44, 3) := by decide +kernel
theorem dX1_load_41 : decode cX1_load 41 = .ok (.aload_n 0, 1) := by decide +kernel
theorem dX1_load_42 : decode cX1_load 42 = .ok (.getfield 25, 3) := by decide +kernel
theorem dX1_load_45 : decode cX1_load 45 = .ok (.iload_n 2, 1) := by decide +kernel
theorem dX1_load_46 : decode cX1_load 46 = .ok (.daload, 1) := by decide +kernel
theorem dX1_load_47 : decode cX1_load 47 = .ok (.ldc2_w 56, 3) := by decide +kernel
theorem dX1_load_50 : decode cX1_load 50 = .ok (.dadd, 1) := by decide +kernel
theorem dX1_load_51 : decode cX1_load 51 = .ok (.dstore_n 3, 1) := by decide +kernel
theorem dX1_load_52 : decode cX1_load 52 = .ok (.aload_n 0, 1) := by decide +kernel
theorem dX1_load_53 : decode cX1_load 53 = .ok (.getfield 25, 3) := by decide +kernel
theorem dX1_load_56 : decode cX1_load 56 = .ok (.iload_n 2, 1) := by decide +kernel
theorem dX1_load_57 : decode cX1_load 57 = .ok (.dload_n 3, 1) := by decide +kernel
theorem dX1_load_58 : decode cX1_load 58 = .ok (.aload_n 0, 1) := by decide +kernel
theorem dX1_load_59 : decode cX1_load 59 = .ok (.getfield 29, 3) := by decide +kernel
theorem dX1_load_62 : decode cX1_load 62 = .ok (.iload_n 2, 1) := by decide +kernel
theorem dX1_load_63 : decode cX1_load 63 = .ok (.daload, 1) := by decide +kernel
theorem dX1_load_64 : decode cX1_load 64 = .ok (.dcmp .g, 1) := by decide +kernel
theorem dX1_load_65 : decode cX1_load 65 = .ok (.ifCond .ge 7, 3) := by decide +kernel
theorem dX1_load_68 : decode cX1_load 68 = .ok (.dload_n 3, 1) := by decide +kernel
theorem dX1_load_69 : decode cX1_load 69 = .ok (.goto 9, 3) := by decide +kernel
theorem dX1_load_72 : decode cX1_load 72 = .ok (.aload_n 0, 1) := by decide +kernel
theorem dX1_load_73 : decode cX1_load 73 = .ok (.getfield 29, 3) := by decide +kernel
theorem dX1_load_76 : decode cX1_load 76 = .ok (.iload_n 2, 1) := by decide +kernel
theorem dX1_load_77 : decode cX1_load 77 = .ok (.daload, 1) := by decide +kernel
theorem dX1_load_78 : decode cX1_load 78 = .ok (.dastore, 1) := by decide +kernel
theorem dX1_load_79 : decode cX1_load 79 = .ok (.iinc 1 (-1), 3) := by decide +kernel
theorem dX1_load_82 : decode cX1_load 82 = .ok (.iinc 2 1, 3) := by decide +kernel
theorem dX1_load_85 : decode cX1_load 85 = .ok (.goto (-81), 3) := by decide +kernel
theorem dX1_load_88 : decode cX1_load 88 = .ok (.return_, 1) := by decide +kernel
theorem dX1_hundredthsOnRack_0 : decode cX1_hundredthsOnRack 0 = .ok (.dconst 0, 1) := by decide +kernel
theorem dX1_hundredthsOnRack_1 : decode cX1_hundredthsOnRack 1 = .ok (.dstore_n 1, 1) := by decide +kernel
theorem dX1_hundredthsOnRack_2 : decode cX1_hundredthsOnRack 2 = .ok (.dconst 0, 1) := by decide +kernel
theorem dX1_hundredthsOnRack_3 : decode cX1_hundredthsOnRack 3 = .ok (.dstore_n 3, 1) := by decide +kernel
theorem dX1_hundredthsOnRack_4 : decode cX1_hundredthsOnRack 4 = .ok (.iconst 0, 1) := by decide +kernel
theorem dX1_hundredthsOnRack_5 : decode cX1_hundredthsOnRack 5 = .ok (.istore 5, 2) := by decide +kernel
theorem dX1_hundredthsOnRack_7 : decode cX1_hundredthsOnRack 7 = .ok (.iload 5, 2) := by decide +kernel
theorem dX1_hundredthsOnRack_9 : decode cX1_hundredthsOnRack 9 = .ok (.aload_n 0, 1) := by decide +kernel
theorem dX1_hundredthsOnRack_10 : decode cX1_hundredthsOnRack 10 = .ok (.getfield 32, 3) := by decide +kernel
theorem dX1_hundredthsOnRack_13 : decode cX1_hundredthsOnRack 13 = .ok (.if_icmp .ge 39, 3) := by decide +kernel
theorem dX1_hundredthsOnRack_16 : decode cX1_hundredthsOnRack 16 = .ok (.aload_n 0, 1) := by decide +kernel
theorem dX1_hundredthsOnRack_17 : decode cX1_hundredthsOnRack 17 = .ok (.getfield 15, 3) := by decide +kernel
theorem dX1_hundredthsOnRack_20 : decode cX1_hundredthsOnRack 20 = .ok (.iload 5, 2) := by decide +kernel
theorem dX1_hundredthsOnRack_22 : decode cX1_hundredthsOnRack 22 = .ok (.iaload, 1) := by decide +kernel
theorem dX1_hundredthsOnRack_23 : decode cX1_hundredthsOnRack 23 = .ok (.ifCond .ne 23, 3) := by decide +kernel
theorem dX1_hundredthsOnRack_26 : decode cX1_hundredthsOnRack 26 = .ok (.dload_n 1, 1) := by decide +kernel
theorem dX1_hundredthsOnRack_27 : decode cX1_hundredthsOnRack 27 = .ok (.aload_n 0, 1) := by decide +kernel
theorem dX1_hundredthsOnRack_28 : decode cX1_hundredthsOnRack 28 = .ok (.getfield 25, 3) := by decide +kernel
theorem dX1_hundredthsOnRack_31 : decode cX1_hundredthsOnRack 31 = .ok (.iload 5, 2) := by decide +kernel
theorem dX1_hundredthsOnRack_33 : decode cX1_hundredthsOnRack 33 = .ok (.daload, 1) := by decide +kernel
theorem dX1_hundredthsOnRack_34 : decode cX1_hundredthsOnRack 34 = .ok (.dadd, 1) := by decide +kernel
theorem dX1_hundredthsOnRack_35 : decode cX1_hundredthsOnRack 35 = .ok (.dstore_n 1, 1) := by decide +kernel
theorem dX1_hundredthsOnRack_36 : decode cX1_hundredthsOnRack 36 = .ok (.dload_n 3, 1) := by decide +kernel
theorem dX1_hundredthsOnRack_37 : decode cX1_hundredthsOnRack 37 = .ok (.aload_n 0, 1) := by decide +kernel
theorem dX1_hundredthsOnRack_38 : decode cX1_hundredthsOnRack 38 = .ok (.getfield 29, 3) := by decide +kernel
theorem dX1_hundredthsOnRack_41 : decode cX1_hundredthsOnRack 41 = .ok (.iload 5, 2) := by decide +kernel
theorem dX1_hundredthsOnRack_43 : decode cX1_hundredthsOnRack 43 = .ok (.daload, 1) := by decide +kernel
theorem dX1_hundredthsOnRack_44 : decode cX1_hundredthsOnRack 44 = .ok (.dadd, 1) := by decide +kernel
theorem dX1_hundredthsOnRack_45 : decode cX1_hundredthsOnRack 45 = .ok (.dstore_n 3, 1) := by decide +kernel
theorem dX1_hundredthsOnRack_46 : decode cX1_hundredthsOnRack 46 = .ok (.iinc 5 1, 3) := by decide +kernel
theorem dX1_hundredthsOnRack_49 : decode cX1_hundredthsOnRack 49 = .ok (.goto (-42), 3) := by decide +kernel
theorem dX1_hundredthsOnRack_52 : decode cX1_hundredthsOnRack 52 = .ok (.dload_n 3, 1) := by decide +kernel
theorem dX1_hundredthsOnRack_53 : decode cX1_hundredthsOnRack 53 = .ok (.dconst 0, 1) := by decide +kernel
theorem dX1_hundredthsOnRack_54 : decode cX1_hundredthsOnRack 54 = .ok (.dcmp .l, 1) := by decide +kernel
theorem dX1_hundredthsOnRack_55 : decode cX1_hundredthsOnRack 55 = .ok (.ifCond .le 14, 3) := by decide +kernel
theorem dX1_hundredthsOnRack_58 : decode cX1_hundredthsOnRack 58 = .ok (.dload_n 1, 1) := by decide +kernel
theorem dX1_hundredthsOnRack_59 : decode cX1_hundredthsOnRack 59 = .ok (.dload_n 3, 1) := by decide +kernel
theorem dX1_hundredthsOnRack_60 : decode cX1_hundredthsOnRack 60 = .ok (.ddiv, 1) := by decide +kernel
theorem dX1_hundredthsOnRack_61 : decode cX1_hundredthsOnRack 61 = .ok (.ldc2_w 58, 3) := by decide +kernel
theorem dX1_hundredthsOnRack_64 : decode cX1_hundredthsOnRack 64 = .ok (.dmul, 1) := by decide +kernel
theorem dX1_hundredthsOnRack_65 : decode cX1_hundredthsOnRack 65 = .ok (.d2i, 1) := by decide +kernel
theorem dX1_hundredthsOnRack_66 : decode cX1_hundredthsOnRack 66 = .ok (.goto 4, 3) := by decide +kernel
theorem dX1_hundredthsOnRack_69 : decode cX1_hundredthsOnRack 69 = .ok (.iconst 0, 1) := by decide +kernel
theorem dX1_hundredthsOnRack_70 : decode cX1_hundredthsOnRack 70 = .ok (.ireturn, 1) := by decide +kernel
theorem dX1_newCapacity_0 : decode cX1_newCapacity 0 = .ok (.iload_n 0, 1) := by decide +kernel
theorem dX1_newCapacity_1 : decode cX1_newCapacity 1 = .ok (.ifCond .ne 9, 3) := by decide +kernel
theorem dX1_newCapacity_4 : decode cX1_newCapacity 4 = .ok (.ldc2_w 60, 3) := by decide +kernel
theorem dX1_newCapacity_7 : decode cX1_newCapacity 7 = .ok (.goto 17, 3) := by decide +kernel
theorem dX1_newCapacity_10 : decode cX1_newCapacity 10 = .ok (.iload_n 0, 1) := by decide +kernel
theorem dX1_newCapacity_11 : decode cX1_newCapacity 11 = .ok (.iconst 1, 1) := by decide +kernel
theorem dX1_newCapacity_12 : decode cX1_newCapacity 12 = .ok (.if_icmp .ne 9, 3) := by decide +kernel
theorem dX1_newCapacity_15 : decode cX1_newCapacity 15 = .ok (.ldc2_w 62, 3) := by decide +kernel
theorem dX1_newCapacity_18 : decode cX1_newCapacity 18 = .ok (.goto 6, 3) := by decide +kernel
theorem dX1_newCapacity_21 : decode cX1_newCapacity 21 = .ok (.ldc2_w 64, 3) := by decide +kernel
theorem dX1_newCapacity_24 : decode cX1_newCapacity 24 = .ok (.dreturn, 1) := by decide +kernel
theorem dX2_init_0 : decode cX2_init 0 = .ok (.aload_n 0, 1) := by decide +kernel
theorem dX2_init_1 : decode cX2_init 1 = .ok (.invokespecial 3, 3) := by decide +kernel
theorem dX2_init_4 : decode cX2_init 4 = .ok (.aload_n 0, 1) := by decide +kernel
theorem dX2_init_5 : decode cX2_init 5 = .ok (.bipush 30, 2) := by decide +kernel
theorem dX2_init_7 : decode cX2_init 7 = .ok (.newarray .int, 2) := by decide +kernel
theorem dX2_init_9 : decode cX2_init 9 = .ok (.putfield 9, 3) := by decide +kernel
theorem dX2_init_12 : decode cX2_init 12 = .ok (.aload_n 0, 1) := by decide +kernel
theorem dX2_init_13 : decode cX2_init 13 = .ok (.bipush 30, 2) := by decide +kernel
theorem dX2_init_15 : decode cX2_init 15 = .ok (.newarray .int, 2) := by decide +kernel
theorem dX2_init_17 : decode cX2_init 17 = .ok (.putfield 15, 3) := by decide +kernel
theorem dX2_init_20 : decode cX2_init 20 = .ok (.aload_n 0, 1) := by decide +kernel
theorem dX2_init_21 : decode cX2_init 21 = .ok (.bipush 30, 2) := by decide +kernel
theorem dX2_init_23 : decode cX2_init 23 = .ok (.newarray .int, 2) := by decide +kernel
theorem dX2_init_25 : decode cX2_init 25 = .ok (.putfield 18, 3) := by decide +kernel
theorem dX2_init_28 : decode cX2_init 28 = .ok (.aload_n 0, 1) := by decide +kernel
theorem dX2_init_29 : decode cX2_init 29 = .ok (.bipush 30, 2) := by decide +kernel
theorem dX2_init_31 : decode cX2_init 31 = .ok (.newarray .int, 2) := by decide +kernel
theorem dX2_init_33 : decode cX2_init 33 = .ok (.putfield 21, 3) := by decide +kernel
theorem dX2_init_36 : decode cX2_init 36 = .ok (.aload_n 0, 1) := by decide +kernel
theorem dX2_init_37 : decode cX2_init 37 = .ok (.iconst 0, 1) := by decide +kernel
theorem dX2_init_38 : decode cX2_init 38 = .ok (.putfield 24, 3) := by decide +kernel
theorem dX2_init_41 : decode cX2_init 41 = .ok (.aload_n 0, 1) := by decide +kernel
theorem dX2_init_42 : decode cX2_init 42 = .ok (.iconst 0, 1) := by decide +kernel
theorem dX2_init_43 : decode cX2_init 43 = .ok (.putfield 28, 3) := by decide +kernel
theorem dX2_init_46 : decode cX2_init 46 = .ok (.return_, 1) := by decide +kernel
theorem dX2_size_0 : decode cX2_size 0 = .ok (.aload_n 0, 1) := by decide +kernel
theorem dX2_size_1 : decode cX2_size 1 = .ok (.getfield 24, 3) := by decide +kernel
theorem dX2_size_4 : decode cX2_size 4 = .ok (.ireturn, 1) := by decide +kernel
theorem dX2_kindAt_0 : decode cX2_kindAt 0 = .ok (.aload_n 0, 1) := by decide +kernel
theorem dX2_kindAt_1 : decode cX2_kindAt 1 = .ok (.getfield 9, 3) := by decide +kernel
theorem dX2_kindAt_4 : decode cX2_kindAt 4 = .ok (.iload_n 1, 1) := by decide +kernel
theorem dX2_kindAt_5 : decode cX2_kindAt 5 = .ok (.iaload, 1) := by decide +kernel
theorem dX2_kindAt_6 : decode cX2_kindAt 6 = .ok (.ireturn, 1) := by decide +kernel
theorem dX2_lampHeld_0 : decode cX2_lampHeld 0 = .ok (.aload_n 0, 1) := by decide +kernel
theorem dX2_lampHeld_1 : decode cX2_lampHeld 1 = .ok (.getfield 15, 3) := by decide +kernel
theorem dX2_lampHeld_4 : decode cX2_lampHeld 4 = .ok (.iload_n 1, 1) := by decide +kernel
theorem dX2_lampHeld_5 : decode cX2_lampHeld 5 = .ok (.iaload, 1) := by decide +kernel
theorem dX2_lampHeld_6 : decode cX2_lampHeld 6 = .ok (.ireturn, 1) := by decide +kernel
theorem dX2_hungAt_0 : decode cX2_hungAt 0 = .ok (.aload_n 0, 1) := by decide +kernel
theorem dX2_hungAt_1 : decode cX2_hungAt 1 = .ok (.getfield 18, 3) := by decide +kernel
theorem dX2_hungAt_4 : decode cX2_hungAt 4 = .ok (.iload_n 1, 1) := by decide +kernel
theorem dX2_hungAt_5 : decode cX2_hungAt 5 = .ok (.iaload, 1) := by decide +kernel
theorem dX2_hungAt_6 : decode cX2_hungAt 6 = .ok (.ireturn, 1) := by decide +kernel
theorem dX2_enter_0 : decode cX2_enter 0 = .ok (.aload_n 0, 1) := by decide +kernel
theorem dX2_enter_1 : decode cX2_enter 1 = .ok (.getfield 24, 3) := by decide +kernel
theorem dX2_enter_4 : decode cX2_enter 4 = .ok (.istore_n 2, 1) := by decide +kernel
theorem dX2_enter_5 : decode cX2_enter 5 = .ok (.aload_n 0, 1) := by decide +kernel
theorem dX2_enter_6 : decode cX2_enter 6 = .ok (.getfield 9, 3) := by decide +kernel
theorem dX2_enter_9 : decode cX2_enter 9 = .ok (.iload_n 2, 1) := by decide +kernel
theorem dX2_enter_10 : decode cX2_enter 10 = .ok (.iload_n 1, 1) := by decide +kernel
theorem dX2_enter_11 : decode cX2_enter 11 = .ok (.iastore, 1) := by decide +kernel
theorem dX2_enter_12 : decode cX2_enter 12 = .ok (.aload_n 0, 1) := by decide +kernel
theorem dX2_enter_13 : decode cX2_enter 13 = .ok (.getfield 15, 3) := by decide +kernel
theorem dX2_enter_16 : decode cX2_enter 16 = .ok (.iload_n 2, 1) := by decide +kernel
theorem dX2_enter_17 : decode cX2_enter 17 = .ok (.iconst (-1), 1) := by decide +kernel
theorem dX2_enter_18 : decode cX2_enter 18 = .ok (.iastore, 1) := by decide +kernel
theorem dX2_enter_19 : decode cX2_enter 19 = .ok (.aload_n 0, 1) := by decide +kernel
theorem dX2_enter_20 : decode cX2_enter 20 = .ok (.dup, 1) := by decide +kernel
theorem dX2_enter_21 : decode cX2_enter 21 = .ok (.getfield 24, 3) := by decide +kernel
theorem dX2_enter_24 : decode cX2_enter 24 = .ok (.iconst 1, 1) := by decide +kernel
theorem dX2_enter_25 : decode cX2_enter 25 = .ok (.iadd, 1) := by decide +kernel
theorem dX2_enter_26 : decode cX2_enter 26 = .ok (.putfield 24, 3) := by decide +kernel
theorem dX2_enter_29 : decode cX2_enter 29 = .ok (.iload_n 2, 1) := by decide +kernel
theorem dX2_enter_30 : decode cX2_enter 30 = .ok (.ireturn, 1) := by decide +kernel
theorem dX2_hangUp_0 : decode cX2_hangUp 0 = .ok (.aload_n 0, 1) := by decide +kernel
theorem dX2_hangUp_1 : decode cX2_hangUp 1 = .ok (.getfield 15, 3) := by decide +kernel
theorem dX2_hangUp_4 : decode cX2_hangUp 4 = .ok (.iload_n 1, 1) := by decide +kernel
theorem dX2_hangUp_5 : decode cX2_hangUp 5 = .ok (.iload_n 2, 1) := by decide +kernel
theorem dX2_hangUp_6 : decode cX2_hangUp 6 = .ok (.iastore, 1) := by decide +kernel
theorem dX2_hangUp_7 : decode cX2_hangUp 7 = .ok (.aload_n 0, 1) := by decide +kernel
theorem dX2_hangUp_8 : decode cX2_hangUp 8 = .ok (.getfield 18, 3) := by decide +kernel
theorem dX2_hangUp_11 : decode cX2_hangUp 11 = .ok (.iload_n 1, 1) := by decide +kernel
theorem dX2_hangUp_12 : decode cX2_hangUp 12 = .ok (.iload_n 3, 1) := by decide +kernel
theorem dX2_hangUp_13 : decode cX2_hangUp 13 = .ok (.iastore, 1) := by decide +kernel
theorem dX2_hangUp_14 : decode cX2_hangUp 14 = .ok (.aload_n 0, 1) := by decide +kernel
theorem dX2_hangUp_15 : decode cX2_hangUp 15 = .ok (.getfield 21, 3) := by decide +kernel
theorem dX2_hangUp_18 : decode cX2_hangUp 18 = .ok (.iload_n 1, 1) := by decide +kernel
theorem dX2_hangUp_19 : decode cX2_hangUp 19 = .ok (.aload_n 0, 1) := by decide +kernel
theorem dX2_hangUp_20 : decode cX2_hangUp 20 = .ok (.getfield 28, 3) := by decide +kernel
theorem dX2_hangUp_23 : decode cX2_hangUp 23 = .ok (.iastore, 1) := by decide +kernel
theorem dX2_hangUp_24 : decode cX2_hangUp 24 = .ok (.aload_n 0, 1) := by decide +kernel
theorem dX2_hangUp_25 : decode cX2_hangUp 25 = .ok (.dup, 1) := by decide +kernel
theorem dX2_hangUp_26 : decode cX2_hangUp 26 = .ok (.getfield 28, 3) := by decide +kernel
theorem dX2_hangUp_29 : decode cX2_hangUp 29 = .ok (.iconst 1, 1) := by decide +kernel
theorem dX2_hangUp_30 : decode cX2_hangUp 30 = .ok (.iadd, 1) := by decide +kernel
theorem dX2_hangUp_31 : decode cX2_hangUp 31 = .ok (.putfield 28, 3) := by decide +kernel
theorem dX2_hangUp_34 : decode cX2_hangUp 34 = .ok (.return_, 1) := by decide +kernel
theorem dX2_takeDown_0 : decode cX2_takeDown 0 = .ok (.aload_n 0, 1) := by decide +kernel
theorem dX2_takeDown_1 : decode cX2_takeDown 1 = .ok (.getfield 15, 3) := by decide +kernel
theorem dX2_takeDown_4 : decode cX2_takeDown 4 = .ok (.iload_n 1, 1) := by decide +kernel
theorem dX2_takeDown_5 : decode cX2_takeDown 5 = .ok (.iconst (-1), 1) := by decide +kernel
theorem dX2_takeDown_6 : decode cX2_takeDown 6 = .ok (.iastore, 1) := by decide +kernel
theorem dX2_takeDown_7 : decode cX2_takeDown 7 = .ok (.return_, 1) := by decide +kernel
theorem dX2_onBoard_0 : decode cX2_onBoard 0 = .ok (.iconst 0, 1) := by decide +kernel
theorem dX2_onBoard_1 : decode cX2_onBoard 1 = .ok (.istore_n 1, 1) := by decide +kernel
theorem dX2_onBoard_2 : decode cX2_onBoard 2 = .ok (.iconst 0, 1) := by decide +kernel
theorem dX2_onBoard_3 : decode cX2_onBoard 3 = .ok (.istore_n 2, 1) := by decide +kernel
theorem dX2_onBoard_4 : decode cX2_onBoard 4 = .ok (.iload_n 2, 1) := by decide +kernel
theorem dX2_onBoard_5 : decode cX2_onBoard 5 = .ok (.aload_n 0, 1) := by decide +kernel
theorem dX2_onBoard_6 : decode cX2_onBoard 6 = .ok (.getfield 24, 3) := by decide +kernel
theorem dX2_onBoard_9 : decode cX2_onBoard 9 = .ok (.if_icmp .ge 22, 3) := by decide +kernel
theorem dX2_onBoard_12 : decode cX2_onBoard 12 = .ok (.aload_n 0, 1) := by decide +kernel
theorem dX2_onBoard_13 : decode cX2_onBoard 13 = .ok (.getfield 15, 3) := by decide +kernel
theorem dX2_onBoard_16 : decode cX2_onBoard 16 = .ok (.iload_n 2, 1) := by decide +kernel
theorem dX2_onBoard_17 : decode cX2_onBoard 17 = .ok (.iaload, 1) := by decide +kernel
theorem dX2_onBoard_18 : decode cX2_onBoard 18 = .ok (.iconst (-1), 1) := by decide +kernel
theorem dX2_onBoard_19 : decode cX2_onBoard 19 = .ok (.if_icmp .eq 6, 3) := by decide +kernel
theorem dX2_onBoard_22 : decode cX2_onBoard 22 = .ok (.iinc 1 1, 3) := by decide +kernel
theorem dX2_onBoard_25 : decode cX2_onBoard 25 = .ok (.iinc 2 1, 3) := by decide +kernel
theorem dX2_onBoard_28 : decode cX2_onBoard 28 = .ok (.goto (-24), 3) := by decide +kernel
theorem dX2_onBoard_31 : decode cX2_onBoard 31 = .ok (.iload_n 1, 1) := by decide +kernel
theorem dX2_onBoard_32 : decode cX2_onBoard 32 = .ok (.ireturn, 1) := by decide +kernel
set_option maxRecDepth 20000 in
theorem ggX2_onBoardAt_X2_countAhead : GoodIn wsX2_onBoardAt wsX2_countAhead := goodIn_r _ [7, 1, 2, 8, 9, 10, 11, 12, 13, 14] (by decide +kernel) (by decide +kernel)
set_option maxRecDepth 20000 in
theorem gX2_onBoardAt_X2_countAhead : GoodIn wsX2_onBoardAt (wsV RX2 31 RX2 yX2_countAhead wsX2_countAhead) := goodIn_app (goodIn_of _ (by decide +kernel)) ggX2_onBoardAt_X2_countAhead
theorem dX2_onBoardAt_0 : decode cX2_onBoardAt 0 = .ok (.iconst 0, 1) := by decide +kernel
theorem dX2_onBoardAt_1 : decode cX2_onBoardAt 1 = .ok (.istore_n 2, 1) := by decide +kernel
theorem dX2_onBoardAt_2 : decode cX2_onBoardAt 2 = .ok (.iload_n 2, 1) := by decide +kernel
theorem dX2_onBoardAt_3 : decode cX2_onBoardAt 3 = .ok (.aload_n 0, 1) := by decide +kernel
theorem dX2_onBoardAt_4 : decode cX2_onBoardAt 4 = .ok (.getfield 24, 3) := by decide +kernel
theorem dX2_onBoardAt_7 : decode cX2_onBoardAt 7 = .ok (.if_icmp .ge 30, 3) := by decide +kernel
theorem dX2_onBoardAt_10 : decode cX2_onBoardAt 10 = .ok (.aload_n 0, 1) := by decide +kernel
theorem dX2_onBoardAt_11 : decode cX2_onBoardAt 11 = .ok (.getfield 15, 3) := by decide +kernel
theorem dX2_onBoardAt_14 : decode cX2_onBoardAt 14 = .ok (.iload_n 2, 1) := by decide +kernel
theorem dX2_onBoardAt_15 : decode cX2_onBoardAt 15 = .ok (.iaload, 1) := by decide +kernel
theorem dX2_onBoardAt_16 : decode cX2_onBoardAt 16 = .ok (.iconst (-1), 1) := by decide +kernel
theorem dX2_onBoardAt_17 : decode cX2_onBoardAt 17 = .ok (.if_icmp .eq 14, 3) := by decide +kernel
theorem dX2_onBoardAt_20 : decode cX2_onBoardAt 20 = .ok (.aload_n 0, 1) := by decide +kernel
theorem dX2_onBoardAt_21 : decode cX2_onBoardAt 21 = .ok (.iload_n 2, 1) := by decide +kernel
theorem dX2_onBoardAt_22 : decode cX2_onBoardAt 22 = .ok (.invokevirtual 31, 3) := by decide +kernel
theorem dX2_onBoardAt_25 : decode cX2_onBoardAt 25 = .ok (.iload_n 1, 1) := by decide +kernel
theorem dX2_onBoardAt_26 : decode cX2_onBoardAt 26 = .ok (.if_icmp .ne 5, 3) := by decide +kernel
theorem dX2_onBoardAt_29 : decode cX2_onBoardAt 29 = .ok (.iload_n 2, 1) := by decide +kernel
theorem dX2_onBoardAt_30 : decode cX2_onBoardAt 30 = .ok (.ireturn, 1) := by decide +kernel
theorem dX2_onBoardAt_31 : decode cX2_onBoardAt 31 = .ok (.iinc 2 1, 3) := by decide +kernel
theorem dX2_onBoardAt_34 : decode cX2_onBoardAt 34 = .ok (.goto (-32), 3) := by decide +kernel
theorem dX2_onBoardAt_37 : decode cX2_onBoardAt 37 = .ok (.iconst (-1), 1) := by decide +kernel
theorem dX2_onBoardAt_38 : decode cX2_onBoardAt 38 = .ok (.ireturn, 1) := by decide +kernel
theorem dX2_countAhead_0 : decode cX2_countAhead 0 = .ok (.iconst 0, 1) := by decide +kernel
theorem dX2_countAhead_1 : decode cX2_countAhead 1 = .ok (.istore_n 2, 1) := by decide +kernel
theorem dX2_countAhead_2 : decode cX2_countAhead 2 = .ok (.iconst 0, 1) := by decide +kernel
theorem dX2_countAhead_3 : decode cX2_countAhead 3 = .ok (.istore_n 3, 1) := by decide +kernel
theorem dX2_countAhead_4 : decode cX2_countAhead 4 = .ok (.iload_n 3, 1) := by decide +kernel
theorem dX2_countAhead_5 : decode cX2_countAhead 5 = .ok (.aload_n 0, 1) := by decide +kernel
theorem dX2_countAhead_6 : decode cX2_countAhead 6 = .ok (.getfield 24, 3) := by decide +kernel
theorem dX2_countAhead_9 : decode cX2_countAhead 9 = .ok (.if_icmp .ge 37, 3) := by decide +kernel
theorem dX2_countAhead_12 : decode cX2_countAhead 12 = .ok (.aload_n 0, 1) := by decide +kernel
theorem dX2_countAhead_13 : decode cX2_countAhead 13 = .ok (.getfield 15, 3) := by decide +kernel
theorem dX2_countAhead_16 : decode cX2_countAhead 16 = .ok (.iload_n 3, 1) := by decide +kernel
theorem dX2_countAhead_17 : decode cX2_countAhead 17 = .ok (.iaload, 1) := by decide +kernel
theorem dX2_countAhead_18 : decode cX2_countAhead 18 = .ok (.iconst (-1), 1) := by decide +kernel
theorem dX2_countAhead_19 : decode cX2_countAhead 19 = .ok (.if_icmp .eq 21, 3) := by decide +kernel
theorem dX2_countAhead_22 : decode cX2_countAhead 22 = .ok (.aload_n 0, 1) := by decide +kernel
theorem dX2_countAhead_23 : decode cX2_countAhead 23 = .ok (.getfield 21, 3) := by decide +kernel
theorem dX2_countAhead_26 : decode cX2_countAhead 26 = .ok (.iload_n 3, 1) := by decide +kernel
theorem dX2_countAhead_27 : decode cX2_countAhead 27 = .ok (.iaload, 1) := by decide +kernel
theorem dX2_countAhead_28 : decode cX2_countAhead 28 = .ok (.aload_n 0, 1) := by decide +kernel
theorem dX2_countAhead_29 : decode cX2_countAhead 29 = .ok (.getfield 21, 3) := by decide +kernel
theorem dX2_countAhead_32 : decode cX2_countAhead 32 = .ok (.iload_n 1, 1) := by decide +kernel
theorem dX2_countAhead_33 : decode cX2_countAhead 33 = .ok (.iaload, 1) := by decide +kernel
theorem dX2_countAhead_34 : decode cX2_countAhead 34 = .ok (.if_icmp .ge 6, 3) := by decide +kernel
theorem dX2_countAhead_37 : decode cX2_countAhead 37 = .ok (.iinc 2 1, 3) := by decide +kernel
theorem dX2_countAhead_40 : decode cX2_countAhead 40 = .ok (.iinc 3 1, 3) := by decide +kernel
theorem dX2_countAhead_43 : decode cX2_countAhead 43 = .ok (.goto (-39), 3) := by decide +kernel
theorem dX2_countAhead_46 : decode cX2_countAhead 46 = .ok (.iload_n 2, 1) := by decide +kernel
theorem dX2_countAhead_47 : decode cX2_countAhead 47 = .ok (.ireturn, 1) := by decide +kernel
end
section
set_option maxRecDepth 20000 in
theorem ggX3_init_X1_init : GoodIn wsX3_init wsX1_init := goodIn_r _ [18, 19, 2, 3, 20, 21, 22, 23, 24, 25, 26, 27, 28, 29, 43, 44, 45, 46, 47, 48, 49] (by decide +kernel) (by decide +kernel)
set_option maxRecDepth 20000 in
theorem gX3_init_X1_init_n9 : GoodIn wsX3_init (wsX1_init) := ggX3_init_X1_init
set_option maxRecDepth 20000 in
theorem ggX3_init_X2_init : GoodIn wsX3_init wsX2_init := goodIn_r _ [31, 32, 2, 3, 20, 33, 34, 35, 36, 37, 38, 54, 55, 56, 57, 58, 59] (by decide +kernel) (by decide +kernel)
set_option maxRecDepth 20000 in
theorem gX3_init_X2_init_n18 : GoodIn wsX3_init (wsX2_init) := ggX3_init_X2_init
set_option maxRecDepth 20000 in
theorem ggX3_init_X0_init : GoodIn wsX3_init wsX0_init := goodIn_r _ [40, 41, 2, 3, 20, 42, 60] (by decide +kernel) (by decide +kernel)
set_option maxRecDepth 20000 in
theorem gX3_init_X0_init_n25 : GoodIn wsX3_init (wsX0_init) := ggX3_init_X0_init
theorem dX3_init_0 : decode cX3_init 0 = .ok (.aload_n 0, 1) := by decide +kernel
theorem dX3_init_1 : decode cX3_init 1 = .ok (.invokespecial 1, 3) := by decide +kernel
theorem dX3_init_4 : decode cX3_init 4 = .ok (.aload_n 0, 1) := by decide +kernel
theorem dX3_init_5 : decode cX3_init 5 = .ok (.new 7, 3) := by decide +kernel
theorem dX3_init_8 : decode cX3_init 8 = .ok (.dup, 1) := by decide +kernel
theorem dX3_init_9 : decode cX3_init 9 = .ok (.invokespecial 9, 3) := by decide +kernel
theorem dX3_init_12 : decode cX3_init 12 = .ok (.putfield 10, 3) := by decide +kernel
theorem dX3_init_15 : decode cX3_init 15 = .ok (.aload_n 0, 1) := by decide +kernel
theorem dX3_init_16 : decode cX3_init 16 = .ok (.new 16, 3) := by decide +kernel
theorem dX3_init_19 : decode cX3_init 19 = .ok (.dup, 1) := by decide +kernel
theorem dX3_init_20 : decode cX3_init 20 = .ok (.invokespecial 18, 3) := by decide +kernel
theorem dX3_init_23 : decode cX3_init 23 = .ok (.putfield 19, 3) := by decide +kernel
theorem dX3_init_26 : decode cX3_init 26 = .ok (.aload_n 0, 1) := by decide +kernel
theorem dX3_init_27 : decode cX3_init 27 = .ok (.new 23, 3) := by decide +kernel
theorem dX3_init_30 : decode cX3_init 30 = .ok (.dup, 1) := by decide +kernel
theorem dX3_init_31 : decode cX3_init 31 = .ok (.invokespecial 25, 3) := by decide +kernel
theorem dX3_init_34 : decode cX3_init 34 = .ok (.putfield 26, 3) := by decide +kernel
theorem dX3_init_37 : decode cX3_init 37 = .ok (.aload_n 0, 1) := by decide +kernel
theorem dX3_init_38 : decode cX3_init 38 = .ok (.iconst 0, 1) := by decide +kernel
theorem dX3_init_39 : decode cX3_init 39 = .ok (.putfield 30, 3) := by decide +kernel
theorem dX3_init_42 : decode cX3_init 42 = .ok (.return_, 1) := by decide +kernel
set_option maxRecDepth 20000 in
theorem ggX3_addLamp_X3_checkKind : GoodIn wsX3_addLamp wsX3_checkKind := goodIn_ca (goodIn_r _ [7, 8, 9] (by decide +kernel) (by decide +kernel)) (goodIn_sub (fun _ h => List.mem_cons_of_mem _ (List.mem_append_right _ h)) (by decide +kernel))
set_option maxRecDepth 20000 in
theorem gX3_addLamp_X3_checkKind : GoodIn wsX3_addLamp (va_wsS RX3 34 yX3_checkKind wsX3_checkKind) := goodIn_app (goodIn_of _ (by decide +kernel)) ggX3_addLamp_X3_checkKind
set_option maxRecDepth 20000 in
theorem ggX3_addLamp_X1_size : GoodIn wsX3_addLamp wsX1_size := goodIn_r _ [14, 15, 34, 35, 36, 37, 38, 39, 40] (by decide +kernel) (by decide +kernel)
set_option maxRecDepth 20000 in
theorem gX3_addLamp_X1_size : GoodIn wsX3_addLamp (wsV RX3 38 RX1 yX1_size wsX1_size) := goodIn_app (goodIn_of _ (by decide +kernel)) ggX3_addLamp_X1_size
set_option maxRecDepth 20000 in
theorem ggX3_addLamp_X1_hangNew : GoodIn wsX3_addLamp wsX1_hangNew := goodIn_r _ [19, 15, 20, 21, 22, 23, 24, 25, 13, 26, 27, 28, 29, 34, 35, 36, 37, 38, 39, 40] (by decide +kernel) (by decide +kernel)
set_option maxRecDepth 20000 in
theorem gX3_addLamp_X1_hangNew : GoodIn wsX3_addLamp (wsV RX3 49 RX1 yX1_hangNew wsX1_hangNew) := goodIn_app (goodIn_of _ (by decide +kernel)) ggX3_addLamp_X1_hangNew
theorem dX3_addLamp_0 : decode cX3_addLamp 0 = .ok (.iload_n 1, 1) := by decide +kernel
theorem dX3_addLamp_1 : decode cX3_addLamp 1 = .ok (.invokestatic 34, 3) := by decide +kernel
theorem dX3_addLamp_4 : decode cX3_addLamp 4 = .ok (.aload_n 0, 1) := by decide +kernel
theorem dX3_addLamp_5 : decode cX3_addLamp 5 = .ok (.getfield 10, 3) := by decide +kernel
theorem dX3_addLamp_8 : decode cX3_addLamp 8 = .ok (.invokevirtual 38, 3) := by decide +kernel
theorem dX3_addLamp_11 : decode cX3_addLamp 11 = .ok (.bipush 40, 2) := by decide +kernel
theorem dX3_addLamp_13 : decode cX3_addLamp 13 = .ok (.if_icmp .lt 13, 3) := by decide +kernel
theorem dX3_addLamp_16 : decode cX3_addLamp 16 = .ok (.new 42, 3) := by decide +kernel
theorem dX3_addLamp_19 : decode cX3_addLamp 19 = .ok (.dup, 1) := by decide +kernel
theorem dX3_addLamp_20 : decode cX3_addLamp 20 = .ok (.ldc 44, 2) := by decide +kernel
theorem dX3_addLamp_22 : decode cX3_addLamp 22 = .ok (.invokespecial 46, 3) := by decide +kernel
theorem dX3_addLamp_25 : decode cX3_addLamp 25 = .ok (.athrow, 1) := by decide +kernel
theorem dX3_addLamp_26 : decode cX3_addLamp 26 = .ok (.aload_n 0, 1) := by decide +kernel
theorem dX3_addLamp_27 : decode cX3_addLamp 27 = .ok (.getfield 10, 3) := by decide +kernel
theorem dX3_addLamp_30 : decode cX3_addLamp 30 = .ok (.iload_n 1, 1) := by decide +kernel
theorem dX3_addLamp_31 : decode cX3_addLamp 31 = .ok (.invokevirtual 49, 3) := by decide +kernel
theorem dX3_addLamp_34 : decode cX3_addLamp 34 = .ok (.ireturn, 1) := by decide +kernel
set_option maxRecDepth 20000 in
theorem ggX3_addMiner_X3_checkKind : GoodIn wsX3_addMiner wsX3_checkKind := goodIn_ca (goodIn_r _ [7, 8, 9] (by decide +kernel) (by decide +kernel)) (goodIn_sub (fun _ h => List.mem_cons_of_mem _ (List.mem_append_right _ h)) (by decide +kernel))
set_option maxRecDepth 20000 in
theorem gX3_addMiner_X3_checkKind : GoodIn wsX3_addMiner (va_wsS RX3 34 yX3_checkKind wsX3_checkKind) := goodIn_app (goodIn_of _ (by decide +kernel)) ggX3_addMiner_X3_checkKind
set_option maxRecDepth 20000 in
theorem ggX3_addMiner_X2_size : GoodIn wsX3_addMiner wsX2_size := goodIn_r _ [14, 15, 26, 27, 28, 29, 30, 31] (by decide +kernel) (by decide +kernel)
set_option maxRecDepth 20000 in
theorem gX3_addMiner_X2_size : GoodIn wsX3_addMiner (wsV RX3 53 RX2 yX2_size wsX2_size) := goodIn_app (goodIn_of _ (by decide +kernel)) ggX3_addMiner_X2_size
set_option maxRecDepth 20000 in
theorem ggX3_addMiner_X2_enter : GoodIn wsX3_addMiner wsX2_enter := goodIn_r _ [19, 15, 20, 21, 26, 27, 28, 29, 30, 31] (by decide +kernel) (by decide +kernel)
set_option maxRecDepth 20000 in
theorem gX3_addMiner_X2_enter : GoodIn wsX3_addMiner (wsV RX3 56 RX2 yX2_enter wsX2_enter) := goodIn_app (goodIn_of _ (by decide +kernel)) ggX3_addMiner_X2_enter
theorem dX3_addMiner_0 : decode cX3_addMiner 0 = .ok (.iload_n 1, 1) := by decide +kernel
theorem dX3_addMiner_1 : decode cX3_addMiner 1 = .ok (.invokestatic 34, 3) := by decide +kernel
theorem dX3_addMiner_4 : decode cX3_addMiner 4 = .ok (.aload_n 0, 1) := by decide +kernel
theorem dX3_addMiner_5 : decode cX3_addMiner 5 = .ok (.getfield 19, 3) := by decide +kernel
theorem dX3_addMiner_8 : decode cX3_addMiner 8 = .ok (.invokevirtual 53, 3) := by decide +kernel
theorem dX3_addMiner_11 : decode cX3_addMiner 11 = .ok (.bipush 30, 2) := by decide +kernel
theorem dX3_addMiner_13 : decode cX3_addMiner 13 = .ok (.if_icmp .lt 13, 3) := by decide +kernel
theorem dX3_addMiner_16 : decode cX3_addMiner 16 = .ok (.new 42, 3) := by decide +kernel
theorem dX3_addMiner_19 : decode cX3_addMiner 19 = .ok (.dup, 1) := by decide +kernel
theorem dX3_addMiner_20 : decode cX3_addMiner 20 = .ok (.ldc 54, 2) := by decide +kernel
theorem dX3_addMiner_22 : decode cX3_addMiner 22 = .ok (.invokespecial 46, 3) := by decide +kernel
theorem dX3_addMiner_25 : decode cX3_addMiner 25 = .ok (.athrow, 1) := by decide +kernel
theorem dX3_addMiner_26 : decode cX3_addMiner 26 = .ok (.aload_n 0, 1) := by decide +kernel
theorem dX3_addMiner_27 : decode cX3_addMiner 27 = .ok (.getfield 19, 3) := by decide +kernel
theorem dX3_addMiner_30 : decode cX3_addMiner 30 = .ok (.iload_n 1, 1) := by decide +kernel
theorem dX3_addMiner_31 : decode cX3_addMiner 31 = .ok (.invokevirtual 56, 3) := by decide +kernel
theorem dX3_addMiner_34 : decode cX3_addMiner 34 = .ok (.ireturn, 1) := by decide +kernel
set_option maxRecDepth 20000 in
theorem ggX3_issue_X3_checkMiner : GoodIn wsX3_issue wsX3_checkMiner := goodIn_ca (goodIn_r _ [10, 11, 12, 3, 13, 14, 15, 16, 17, 18, 58, 59, 60, 61, 62, 63, 64, 65, 66, 67] (by decide +kernel) (by decide +kernel)) (goodIn_sub (fun _ h => List.mem_cons_of_mem _ (List.mem_append_right _ h)) (by decide +kernel))
set_option maxRecDepth 20000 in
theorem gX3_issue_X3_checkMiner : GoodIn wsX3_issue (wsV RX3 59 RX3 yX3_checkMiner wsX3_checkMiner) := goodIn_app (goodIn_of _ (by decide +kernel)) ggX3_issue_X3_checkMiner
set_option maxRecDepth 20000 in
theorem ggX3_issue_X2_lampHeld : GoodIn wsX3_issue wsX2_lampHeld := goodIn_r _ [22, 23, 62, 63, 64, 65, 66, 67] (by decide +kernel) (by decide +kernel)
set_option maxRecDepth 20000 in
theorem gX3_issue_X2_lampHeld : GoodIn wsX3_issue (wsV RX3 62 RX2 yX2_lampHeld wsX2_lampHeld) := goodIn_app (goodIn_of _ (by decide +kernel)) ggX3_issue_X2_lampHeld
set_option maxRecDepth 20000 in
theorem ggX3_issue_X2_kindAt : GoodIn wsX3_issue wsX2_kindAt := goodIn_r _ [27, 28, 62, 63, 64, 65, 66, 67] (by decide +kernel) (by decide +kernel)
set_option maxRecDepth 20000 in
theorem gX3_issue_X2_kindAt : GoodIn wsX3_issue (wsV RX3 67 RX2 yX2_kindAt wsX2_kindAt) := goodIn_app (goodIn_of _ (by decide +kernel)) ggX3_issue_X2_kindAt
set_option maxRecDepth 20000 in
theorem ggX3_issue_X1_bestFor : GoodIn wsX3_issue wsX1_bestFor := goodIn_r _ [33, 34, 35, 36, 32, 37, 38, 39, 40, 41, 42, 43, 44, 45, 46, 68, 69, 70, 71, 72, 73, 74] (by decide +kernel) (by decide +kernel)
set_option maxRecDepth 20000 in
theorem gX3_issue_X1_bestFor : GoodIn wsX3_issue (wsV RX3 70 RX1 yX1_bestFor wsX1_bestFor) := goodIn_app (goodIn_of _ (by decide +kernel)) ggX3_issue_X1_bestFor
set_option maxRecDepth 20000 in
theorem ggX3_issue_X1_moveTo : GoodIn wsX3_issue wsX1_moveTo := goodIn_r _ [50, 45, 68, 69, 70, 71, 72, 73, 74] (by decide +kernel) (by decide +kernel)
set_option maxRecDepth 20000 in
theorem gX3_issue_X1_moveTo : GoodIn wsX3_issue (wsV RX3 75 RX1 yX1_moveTo wsX1_moveTo) := goodIn_app (goodIn_of _ (by decide +kernel)) ggX3_issue_X1_moveTo
set_option maxRecDepth 20000 in
theorem ggX3_issue_X2_hangUp : GoodIn wsX3_issue wsX2_hangUp := goodIn_r _ [54, 23, 55, 56, 57, 62, 63, 64, 65, 66, 67] (by decide +kernel) (by decide +kernel)
set_option maxRecDepth 20000 in
theorem gX3_issue_X2_hangUp : GoodIn wsX3_issue (wsV RX3 79 RX2 yX2_hangUp wsX2_hangUp) := goodIn_app (goodIn_of _ (by decide +kernel)) ggX3_issue_X2_hangUp
theorem dX3_issue_0 : decode cX3_issue 0 = .ok (.aload_n 0, 1) := by decide +kernel
theorem dX3_issue_1 : decode cX3_issue 1 = .ok (.iload_n 1, 1) := by decide +kernel
theorem dX3_issue_2 : decode cX3_issue 2 = .ok (.invokevirtual 59, 3) := by decide +kernel
theorem dX3_issue_5 : decode cX3_issue 5 = .ok (.aload_n 0, 1) := by decide +kernel
theorem dX3_issue_6 : decode cX3_issue 6 = .ok (.getfield 19, 3) := by decide +kernel
theorem dX3_issue_9 : decode cX3_issue 9 = .ok (.iload_n 1, 1) := by decide +kernel
theorem dX3_issue_10 : decode cX3_issue 10 = .ok (.invokevirtual 62, 3) := by decide +kernel
theorem dX3_issue_13 : decode cX3_issue 13 = .ok (.iconst (-1), 1) := by decide +kernel
theorem dX3_issue_14 : decode cX3_issue 14 = .ok (.if_icmp .eq 13, 3) := by decide +kernel
theorem dX3_issue_17 : decode cX3_issue 17 = .ok (.new 42, 3) := by decide +kernel
theorem dX3_issue_20 : decode cX3_issue 20 = .ok (.dup, 1) := by decide +kernel
theorem dX3_issue_21 : decode cX3_issue 21 = .ok (.ldc 65, 2) := by decide +kernel
theorem dX3_issue_23 : decode cX3_issue 23 = .ok (.invokespecial 46, 3) := by decide +kernel
theorem dX3_issue_26 : decode cX3_issue 26 = .ok (.athrow, 1) := by decide +kernel
theorem dX3_issue_27 : decode cX3_issue 27 = .ok (.aload_n 0, 1) := by decide +kernel
theorem dX3_issue_28 : decode cX3_issue 28 = .ok (.getfield 10, 3) := by decide +kernel
theorem dX3_issue_31 : decode cX3_issue 31 = .ok (.aload_n 0, 1) := by decide +kernel
theorem dX3_issue_32 : decode cX3_issue 32 = .ok (.getfield 19, 3) := by decide +kernel
theorem dX3_issue_35 : decode cX3_issue 35 = .ok (.iload_n 1, 1) := by decide +kernel
theorem dX3_issue_36 : decode cX3_issue 36 = .ok (.invokevirtual 67, 3) := by decide +kernel
theorem dX3_issue_39 : decode cX3_issue 39 = .ok (.invokevirtual 70, 3) := by decide +kernel
theorem dX3_issue_42 : decode cX3_issue 42 = .ok (.istore_n 2, 1) := by decide +kernel
theorem dX3_issue_43 : decode cX3_issue 43 = .ok (.iload_n 2, 1) := by decide +kernel
theorem dX3_issue_44 : decode cX3_issue 44 = .ok (.iconst (-1), 1) := by decide +kernel
theorem dX3_issue_45 : decode cX3_issue 45 = .ok (.if_icmp .ne 13, 3) := by decide +kernel
theorem dX3_issue_48 : decode cX3_issue 48 = .ok (.new 42, 3) := by decide +kernel
theorem dX3_issue_51 : decode cX3_issue 51 = .ok (.dup, 1) := by decide +kernel
theorem dX3_issue_52 : decode cX3_issue 52 = .ok (.ldc 73, 2) := by decide +kernel
theorem dX3_issue_54 : decode cX3_issue 54 = .ok (.invokespecial 46, 3) := by decide +kernel
theorem dX3_issue_57 : decode cX3_issue 57 = .ok (.athrow, 1) := by decide +kernel
theorem dX3_issue_58 : decode cX3_issue 58 = .ok (.aload_n 0, 1) := by decide +kernel
theorem dX3_issue_59 : decode cX3_issue 59 = .ok (.getfield 10, 3) := by decide +kernel
theorem dX3_issue_62 : decode cX3_issue 62 = .ok (.iload_n 2, 1) := by decide +kernel
theorem dX3_issue_63 : decode cX3_issue 63 = .ok (.iconst 1, 1) := by decide +kernel
theorem dX3_issue_64 : decode cX3_issue 64 = .ok (.invokevirtual 75, 3) := by decide +kernel
theorem dX3_issue_67 : decode cX3_issue 67 = .ok (.aload_n 0, 1) := by decide +kernel
theorem dX3_issue_68 : decode cX3_issue 68 = .ok (.getfield 19, 3) := by decide +kernel
theorem dX3_issue_71 : decode cX3_issue 71 = .ok (.iload_n 1, 1) := by decide +kernel
theorem dX3_issue_72 : decode cX3_issue 72 = .ok (.iload_n 2, 1) := by decide +kernel
theorem dX3_issue_73 : decode cX3_issue 73 = .ok (.aload_n 0, 1) := by decide +kernel
theorem dX3_issue_74 : decode cX3_issue 74 = .ok (.getfield 30, 3) := by decide +kernel
theorem dX3_issue_77 : decode cX3_issue 77 = .ok (.invokevirtual 79, 3) := by decide +kernel
theorem dX3_issue_80 : decode cX3_issue 80 = .ok (.iload_n 2, 1) := by decide +kernel
theorem dX3_issue_81 : decode cX3_issue 81 = .ok (.ireturn, 1) := by decide +kernel
set_option maxRecDepth 20000 in
theorem ggX3_back_X3_checkMiner : GoodIn wsX3_back wsX3_checkMiner := goodIn_ca (goodIn_r _ [11, 12, 13, 3, 14, 15, 16, 17, 18, 19, 51, 52, 53, 54, 55, 56, 57, 58, 59, 60] (by decide +kernel) (by decide +kernel)) (goodIn_sub (fun _ h => List.mem_cons_of_mem _ (List.mem_append_right _ h)) (by decide +kernel))
set_option maxRecDepth 20000 in
theorem gX3_back_X3_checkMiner : GoodIn wsX3_back (wsV RX3 59 RX3 yX3_checkMiner wsX3_checkMiner) := goodIn_app (goodIn_of _ (by decide +kernel)) ggX3_back_X3_checkMiner
set_option maxRecDepth 20000 in
theorem ggX3_back_X2_lampHeld : GoodIn wsX3_back wsX2_lampHeld := goodIn_r _ [23, 24, 55, 56, 57, 58, 59, 60] (by decide +kernel) (by decide +kernel)
set_option maxRecDepth 20000 in
theorem gX3_back_X2_lampHeld : GoodIn wsX3_back (wsV RX3 62 RX2 yX2_lampHeld wsX2_lampHeld) := goodIn_app (goodIn_of _ (by decide +kernel)) ggX3_back_X2_lampHeld
set_option maxRecDepth 20000 in
theorem ggX3_back_X2_hungAt : GoodIn wsX3_back wsX2_hungAt := goodIn_r _ [28, 29, 55, 56, 57, 58, 59, 60] (by decide +kernel) (by decide +kernel)
set_option maxRecDepth 20000 in
theorem gX3_back_X2_hungAt : GoodIn wsX3_back (wsV RX3 85 RX2 yX2_hungAt wsX2_hungAt) := goodIn_app (goodIn_of _ (by decide +kernel)) ggX3_back_X2_hungAt
set_option maxRecDepth 20000 in
theorem ggX3_back_X1_takeBack : GoodIn wsX3_back wsX1_takeBack := goodIn_r _ [34, 35, 36, 37, 38, 39, 40, 61, 62, 63, 64, 65, 66, 67] (by decide +kernel) (by decide +kernel)
set_option maxRecDepth 20000 in
theorem gX3_back_X1_takeBack : GoodIn wsX3_back (wsV RX3 88 RX1 yX1_takeBack wsX1_takeBack) := goodIn_app (goodIn_of _ (by decide +kernel)) ggX3_back_X1_takeBack
set_option maxRecDepth 20000 in
theorem ggX3_back_X2_takeDown : GoodIn wsX3_back wsX2_takeDown := goodIn_r _ [44, 24, 55, 56, 57, 58, 59, 60] (by decide +kernel) (by decide +kernel)
set_option maxRecDepth 20000 in
theorem gX3_back_X2_takeDown : GoodIn wsX3_back (wsV RX3 91 RX2 yX2_takeDown wsX2_takeDown) := goodIn_app (goodIn_of _ (by decide +kernel)) ggX3_back_X2_takeDown
set_option maxRecDepth 20000 in
theorem ggX3_back_X0_end : GoodIn wsX3_back wsX0_end := goodIn_r _ [49, 50, 68] (by decide +kernel) (by decide +kernel)
set_option maxRecDepth 20000 in
theorem gX3_back_X0_end : GoodIn wsX3_back (wsV RX3 94 RX0 yX0_end wsX0_end) := goodIn_app (goodIn_of _ (by decide +kernel)) ggX3_back_X0_end
theorem dX3_back_0 : decode cX3_back 0 = .ok (.aload_n 0, 1) := by decide +kernel
theorem dX3_back_1 : decode cX3_back 1 = .ok (.iload_n 1, 1) := by decide +kernel
theorem dX3_back_2 : decode cX3_back 2 = .ok (.invokevirtual 59, 3) := by decide +kernel
theorem dX3_back_5 : decode cX3_back 5 = .ok (.aload_n 0, 1) := by decide +kernel
theorem dX3_back_6 : decode cX3_back 6 = .ok (.getfield 19, 3) := by decide +kernel
theorem dX3_back_9 : decode cX3_back 9 = .ok (.iload_n 1, 1) := by decide +kernel
theorem dX3_back_10 : decode cX3_back 10 = .ok (.invokevirtual 62, 3) := by decide +kernel
theorem dX3_back_13 : decode cX3_back 13 = .ok (.istore_n 2, 1) := by decide +kernel
theorem dX3_back_14 : decode cX3_back 14 = .ok (.iload_n 2, 1) := by decide +kernel
theorem dX3_back_15 : decode cX3_back 15 = .ok (.iconst (-1), 1) := by decide +kernel
theorem dX3_back_16 : decode cX3_back 16 = .ok (.if_icmp .ne 13, 3) := by decide +kernel
theorem dX3_back_19 : decode cX3_back 19 = .ok (.new 42, 3) := by decide +kernel
theorem dX3_back_22 : decode cX3_back 22 = .ok (.dup, 1) := by decide +kernel
theorem dX3_back_23 : decode cX3_back 23 = .ok (.ldc 83, 2) := by decide +kernel
theorem dX3_back_25 : decode cX3_back 25 = .ok (.invokespecial 46, 3) := by decide +kernel
theorem dX3_back_28 : decode cX3_back 28 = .ok (.athrow, 1) := by decide +kernel
theorem dX3_back_29 : decode cX3_back 29 = .ok (.aload_n 0, 1) := by decide +kernel
theorem dX3_back_30 : decode cX3_back 30 = .ok (.getfield 30, 3) := by decide +kernel
theorem dX3_back_33 : decode cX3_back 33 = .ok (.aload_n 0, 1) := by decide +kernel
theorem dX3_back_34 : decode cX3_back 34 = .ok (.getfield 19, 3) := by decide +kernel
theorem dX3_back_37 : decode cX3_back 37 = .ok (.iload_n 1, 1) := by decide +kernel
theorem dX3_back_38 : decode cX3_back 38 = .ok (.invokevirtual 85, 3) := by decide +kernel
theorem dX3_back_41 : decode cX3_back 41 = .ok (.isub, 1) := by decide +kernel
theorem dX3_back_42 : decode cX3_back 42 = .ok (.istore_n 3, 1) := by decide +kernel
theorem dX3_back_43 : decode cX3_back 43 = .ok (.aload_n 0, 1) := by decide +kernel
theorem dX3_back_44 : decode cX3_back 44 = .ok (.getfield 10, 3) := by decide +kernel
theorem dX3_back_47 : decode cX3_back 47 = .ok (.iload_n 2, 1) := by decide +kernel
theorem dX3_back_48 : decode cX3_back 48 = .ok (.invokevirtual 88, 3) := by decide +kernel
theorem dX3_back_51 : decode cX3_back 51 = .ok (.aload_n 0, 1) := by decide +kernel
theorem dX3_back_52 : decode cX3_back 52 = .ok (.getfield 19, 3) := by decide +kernel
theorem dX3_back_55 : decode cX3_back 55 = .ok (.iload_n 1, 1) := by decide +kernel
theorem dX3_back_56 : decode cX3_back 56 = .ok (.invokevirtual 91, 3) := by decide +kernel
theorem dX3_back_59 : decode cX3_back 59 = .ok (.aload_n 0, 1) := by decide +kernel
theorem dX3_back_60 : decode cX3_back 60 = .ok (.getfield 26, 3) := by decide +kernel
theorem dX3_back_63 : decode cX3_back 63 = .ok (.iload_n 1, 1) := by decide +kernel
theorem dX3_back_64 : decode cX3_back 64 = .ok (.invokevirtual 94, 3) := by decide +kernel
theorem dX3_back_67 : decode cX3_back 67 = .ok (.iload_n 3, 1) := by decide +kernel
theorem dX3_back_68 : decode cX3_back 68 = .ok (.ireturn, 1) := by decide +kernel
set_option maxRecDepth 20000 in
theorem ggX3_test_X3_checkLamp : GoodIn wsX3_test wsX3_checkLamp := goodIn_ca (goodIn_r _ [8, 9, 10, 3, 11, 12, 13, 14, 15, 16, 40, 41, 42, 43, 44, 45, 46, 47, 48, 49, 50] (by decide +kernel) (by decide +kernel)) (goodIn_sub (fun _ h => List.mem_cons_of_mem _ (List.mem_append_right _ h)) (by decide +kernel))
set_option maxRecDepth 20000 in
theorem gX3_test_X3_checkLamp : GoodIn wsX3_test (wsV RX3 97 RX3 yX3_checkLamp wsX3_checkLamp) := goodIn_app (goodIn_of _ (by decide +kernel)) ggX3_test_X3_checkLamp
set_option maxRecDepth 20000 in
theorem ggX3_test_X1_placeAt : GoodIn wsX3_test wsX1_placeAt := goodIn_r _ [20, 21, 44, 45, 46, 47, 48, 49, 50] (by decide +kernel) (by decide +kernel)
set_option maxRecDepth 20000 in
theorem gX3_test_X1_placeAt : GoodIn wsX3_test (wsV RX3 100 RX1 yX1_placeAt wsX1_placeAt) := goodIn_app (goodIn_of _ (by decide +kernel)) ggX3_test_X1_placeAt
set_option maxRecDepth 20000 in
theorem ggX3_test_X1_faultAt : GoodIn wsX3_test wsX1_faultAt := goodIn_r _ [25, 26, 27, 28, 29, 30, 31, 14, 32, 33, 34, 35, 44, 45, 46, 47, 48, 49, 50] (by decide +kernel) (by decide +kernel)
set_option maxRecDepth 20000 in
theorem gX3_test_X1_faultAt : GoodIn wsX3_test (wsV RX3 105 RX1 yX1_faultAt wsX1_faultAt) := goodIn_app (goodIn_of _ (by decide +kernel)) ggX3_test_X1_faultAt
set_option maxRecDepth 20000 in
theorem ggX3_test_X1_moveTo : GoodIn wsX3_test wsX1_moveTo := goodIn_r _ [39, 21, 44, 45, 46, 47, 48, 49, 50] (by decide +kernel) (by decide +kernel)
set_option maxRecDepth 20000 in
theorem gX3_test_X1_moveTo : GoodIn wsX3_test (wsV RX3 75 RX1 yX1_moveTo wsX1_moveTo) := goodIn_app (goodIn_of _ (by decide +kernel)) ggX3_test_X1_moveTo
theorem dX3_test_0 : decode cX3_test 0 = .ok (.aload_n 0, 1) := by decide +kernel
theorem dX3_test_1 : decode cX3_test 1 = .ok (.iload_n 1, 1) := by decide +kernel
theorem dX3_test_2 : decode cX3_test 2 = .ok (.invokevirtual 97, 3) := by decide +kernel
theorem dX3_test_5 : decode cX3_test 5 = .ok (.aload_n 0, 1) := by decide +kernel
theorem dX3_test_6 : decode cX3_test 6 = .ok (.getfield 10, 3) := by decide +kernel
theorem dX3_test_9 : decode cX3_test 9 = .ok (.iload_n 1, 1) := by decide +kernel
theorem dX3_test_10 : decode cX3_test 10 = .ok (.invokevirtual 100, 3) := by decide +kernel
theorem dX3_test_13 : decode cX3_test 13 = .ok (.ifCond .eq 13, 3) := by decide +kernel
theorem dX3_test_16 : decode cX3_test 16 = .ok (.new 42, 3) := by decide +kernel
theorem dX3_test_19 : decode cX3_test 19 = .ok (.dup, 1) := by decide +kernel
theorem dX3_test_20 : decode cX3_test 20 = .ok (.ldc 103, 2) := by decide +kernel
theorem dX3_test_22 : decode cX3_test 22 = .ok (.invokespecial 46, 3) := by decide +kernel
theorem dX3_test_25 : decode cX3_test 25 = .ok (.athrow, 1) := by decide +kernel
theorem dX3_test_26 : decode cX3_test 26 = .ok (.aload_n 0, 1) := by decide +kernel
theorem dX3_test_27 : decode cX3_test 27 = .ok (.getfield 10, 3) := by decide +kernel
theorem dX3_test_30 : decode cX3_test 30 = .ok (.iload_n 1, 1) := by decide +kernel
theorem dX3_test_31 : decode cX3_test 31 = .ok (.invokevirtual 105, 3) := by decide +kernel
theorem dX3_test_34 : decode cX3_test 34 = .ok (.istore_n 2, 1) := by decide +kernel
theorem dX3_test_35 : decode cX3_test 35 = .ok (.iload_n 2, 1) := by decide +kernel
theorem dX3_test_36 : decode cX3_test 36 = .ok (.ifCond .eq 12, 3) := by decide +kernel
theorem dX3_test_39 : decode cX3_test 39 = .ok (.aload_n 0, 1) := by decide +kernel
theorem dX3_test_40 : decode cX3_test 40 = .ok (.getfield 10, 3) := by decide +kernel
theorem dX3_test_43 : decode cX3_test 43 = .ok (.iload_n 1, 1) := by decide +kernel
theorem dX3_test_44 : decode cX3_test 44 = .ok (.iconst 2, 1) := by decide +kernel
theorem dX3_test_45 : decode cX3_test 45 = .ok (.invokevirtual 75, 3) := by decide +kernel
theorem dX3_test_48 : decode cX3_test 48 = .ok (.iload_n 2, 1) := by decide +kernel
theorem dX3_test_49 : decode cX3_test 49 = .ok (.ireturn, 1) := by decide +kernel
set_option maxRecDepth 20000 in
theorem ggX3_mend_X3_checkLamp : GoodIn wsX3_mend wsX3_checkLamp := goodIn_ca (goodIn_r _ [8, 9, 10, 3, 11, 12, 13, 14, 15, 16, 44, 45, 46, 47, 48, 49, 50, 51, 52, 53, 54] (by decide +kernel) (by decide +kernel)) (goodIn_sub (fun _ h => List.mem_cons_of_mem _ (List.mem_append_right _ h)) (by decide +kernel))
set_option maxRecDepth 20000 in
theorem gX3_mend_X3_checkLamp : GoodIn wsX3_mend (wsV RX3 97 RX3 yX3_checkLamp wsX3_checkLamp) := goodIn_app (goodIn_of _ (by decide +kernel)) ggX3_mend_X3_checkLamp
set_option maxRecDepth 20000 in
theorem ggX3_mend_X1_placeAt : GoodIn wsX3_mend wsX1_placeAt := goodIn_r _ [20, 21, 48, 49, 50, 51, 52, 53, 54] (by decide +kernel) (by decide +kernel)
set_option maxRecDepth 20000 in
theorem gX3_mend_X1_placeAt : GoodIn wsX3_mend (wsV RX3 100 RX1 yX1_placeAt wsX1_placeAt) := goodIn_app (goodIn_of _ (by decide +kernel)) ggX3_mend_X1_placeAt
set_option maxRecDepth 20000 in
theorem ggX3_mend_X1_endLeak : GoodIn wsX3_mend wsX1_endLeak := goodIn_r _ [25, 26, 48, 49, 50, 51, 52, 53, 54] (by decide +kernel) (by decide +kernel)
set_option maxRecDepth 20000 in
theorem gX3_mend_X1_endLeak : GoodIn wsX3_mend (wsV RX3 110 RX1 yX1_endLeak wsX1_endLeak) := goodIn_app (goodIn_of _ (by decide +kernel)) ggX3_mend_X1_endLeak
set_option maxRecDepth 20000 in
theorem ggX3_mend_X1_faultAt : GoodIn wsX3_mend wsX1_faultAt := goodIn_r _ [30, 26, 31, 32, 33, 34, 35, 14, 36, 37, 38, 39, 48, 49, 50, 51, 52, 53, 54] (by decide +kernel) (by decide +kernel)
set_option maxRecDepth 20000 in
theorem gX3_mend_X1_faultAt : GoodIn wsX3_mend (wsV RX3 105 RX1 yX1_faultAt wsX1_faultAt) := goodIn_app (goodIn_of _ (by decide +kernel)) ggX3_mend_X1_faultAt
set_option maxRecDepth 20000 in
theorem ggX3_mend_X1_moveTo : GoodIn wsX3_mend wsX1_moveTo := goodIn_r _ [43, 21, 48, 49, 50, 51, 52, 53, 54] (by decide +kernel) (by decide +kernel)
set_option maxRecDepth 20000 in
theorem gX3_mend_X1_moveTo : GoodIn wsX3_mend (wsV RX3 75 RX1 yX1_moveTo wsX1_moveTo) := goodIn_app (goodIn_of _ (by decide +kernel)) ggX3_mend_X1_moveTo
theorem dX3_mend_0 : decode cX3_mend 0 = .ok (.aload_n 0, 1) := by decide +kernel
theorem dX3_mend_1 : decode cX3_mend 1 = .ok (.iload_n 1, 1) := by decide +kernel
theorem dX3_mend_2 : decode cX3_mend 2 = .ok (.invokevirtual 97, 3) := by decide +kernel
theorem dX3_mend_5 : decode cX3_mend 5 = .ok (.aload_n 0, 1) := by decide +kernel
theorem dX3_mend_6 : decode cX3_mend 6 = .ok (.getfield 10, 3) := by decide +kernel
theorem dX3_mend_9 : decode cX3_mend 9 = .ok (.iload_n 1, 1) := by decide +kernel
theorem dX3_mend_10 : decode cX3_mend 10 = .ok (.invokevirtual 100, 3) := by decide +kernel
theorem dX3_mend_13 : decode cX3_mend 13 = .ok (.iconst 2, 1) := by decide +kernel
theorem dX3_mend_14 : decode cX3_mend 14 = .ok (.if_icmp .eq 13, 3) := by decide +kernel
theorem dX3_mend_17 : decode cX3_mend 17 = .ok (.new 42, 3) := by decide +kernel
theorem dX3_mend_20 : decode cX3_mend 20 = .ok (.dup, 1) := by decide +kernel
theorem dX3_mend_21 : decode cX3_mend 21 = .ok (.ldc 108, 2) := by decide +kernel
theorem dX3_mend_23 : decode cX3_mend 23 = .ok (.invokespecial 46, 3) := by decide +kernel
theorem dX3_mend_26 : decode cX3_mend 26 = .ok (.athrow, 1) := by decide +kernel
theorem dX3_mend_27 : decode cX3_mend 27 = .ok (.aload_n 0, 1) := by decide +kernel
theorem dX3_mend_28 : decode cX3_mend 28 = .ok (.getfield 10, 3) := by decide +kernel
theorem dX3_mend_31 : decode cX3_mend 31 = .ok (.iload_n 1, 1) := by decide +kernel
theorem dX3_mend_32 : decode cX3_mend 32 = .ok (.invokevirtual 110, 3) := by decide +kernel
theorem dX3_mend_35 : decode cX3_mend 35 = .ok (.aload_n 0, 1) := by decide +kernel
theorem dX3_mend_36 : decode cX3_mend 36 = .ok (.getfield 10, 3) := by decide +kernel
theorem dX3_mend_39 : decode cX3_mend 39 = .ok (.iload_n 1, 1) := by decide +kernel
theorem dX3_mend_40 : decode cX3_mend 40 = .ok (.invokevirtual 105, 3) := by decide +kernel
theorem dX3_mend_43 : decode cX3_mend 43 = .ok (.ifCond .ne 7, 3) := by decide +kernel
theorem dX3_mend_46 : decode cX3_mend 46 = .ok (.iconst 1, 1) := by decide +kernel
theorem dX3_mend_47 : decode cX3_mend 47 = .ok (.goto 4, 3) := by decide +kernel
theorem dX3_mend_50 : decode cX3_mend 50 = .ok (.iconst 0, 1) := by decide +kernel
theorem dX3_mend_51 : decode cX3_mend 51 = .ok (.istore_n 2, 1) := by decide +kernel
theorem dX3_mend_52 : decode cX3_mend 52 = .ok (.aload_n 0, 1) := by decide +kernel
theorem dX3_mend_53 : decode cX3_mend 53 = .ok (.getfield 10, 3) := by decide +kernel
theorem dX3_mend_56 : decode cX3_mend 56 = .ok (.iload_n 1, 1) := by decide +kernel
theorem dX3_mend_57 : decode cX3_mend 57 = .ok (.iload_n 2, 1) := by decide +kernel
theorem dX3_mend_58 : decode cX3_mend 58 = .ok (.ifCond .eq 7, 3) := by decide +kernel
theorem dX3_mend_61 : decode cX3_mend 61 = .ok (.iconst 0, 1) := by decide +kernel
theorem dX3_mend_62 : decode cX3_mend 62 = .ok (.goto 4, 3) := by decide +kernel
theorem dX3_mend_65 : decode cX3_mend 65 = .ok (.iconst 3, 1) := by decide +kernel
theorem dX3_mend_66 : decode cX3_mend 66 = .ok (.invokevirtual 75, 3) := by decide +kernel
theorem dX3_mend_69 : decode cX3_mend 69 = .ok (.iload_n 2, 1) := by decide +kernel
theorem dX3_mend_70 : decode cX3_mend 70 = .ok (.ireturn, 1) := by decide +kernel
set_option maxRecDepth 20000 in
theorem ggX3_hours_X3_passHour : GoodIn wsX3_hours wsX3_passHour := goodIn_r _ [7, 8, 9, 10, 11, 12, 13, 14, 15, 16, 17, 18, 19, 20, 21, 22, 23, 24, 25, 26, 27, 28, 29, 30, 31, 32, 33, 34, 35, 36, 37, 38, 39, 40, 6, 41, 42, 43, 44, 45, 46, 47, 48, 49, 50, 51, 52, 53, 54, 55, 56, 57, 58, 59, 60, 61, 62, 63, 64, 65, 66, 67, 68, 69, 70, 71, 72, 73, 74, 75] (by decide +kernel) (by decide +kernel)
set_option maxRecDepth 20000 in
theorem gX3_hours_X3_passHour : GoodIn wsX3_hours (wsV RX3 118 RX3 yX3_passHour wsX3_passHour) := goodIn_app (goodIn_of _ (by decide +kernel)) ggX3_hours_X3_passHour
theorem dX3_hours_0 : decode cX3_hours 0 = .ok (.iload_n 1, 1) := by decide +kernel
theorem dX3_hours_1 : decode cX3_hours 1 = .ok (.iconst 1, 1) := by decide +kernel
theorem dX3_hours_2 : decode cX3_hours 2 = .ok (.if_icmp .lt 9, 3) := by decide +kernel
theorem dX3_hours_5 : decode cX3_hours 5 = .ok (.iload_n 1, 1) := by decide +kernel
theorem dX3_hours_6 : decode cX3_hours 6 = .ok (.bipush 100, 2) := by decide +kernel
theorem dX3_hours_8 : decode cX3_hours 8 = .ok (.if_icmp .le 13, 3) := by decide +kernel
theorem dX3_hours_11 : decode cX3_hours 11 = .ok (.new 113, 3) := by decide +kernel
theorem dX3_hours_14 : decode cX3_hours 14 = .ok (.dup, 1) := by decide +kernel
theorem dX3_hours_15 : decode cX3_hours 15 = .ok (.ldc 115, 2) := by decide +kernel
theorem dX3_hours_17 : decode cX3_hours 17 = .ok (.invokespecial 117, 3) := by decide +kernel
theorem dX3_hours_20 : decode cX3_hours 20 = .ok (.athrow, 1) := by decide +kernel
theorem dX3_hours_21 : decode cX3_hours 21 = .ok (.iconst 0, 1) := by decide +kernel
theorem dX3_hours_22 : decode cX3_hours 22 = .ok (.istore_n 2, 1) := by decide +kernel
theorem dX3_hours_23 : decode cX3_hours 23 = .ok (.iconst 0, 1) := by decide +kernel
theorem dX3_hours_24 : decode cX3_hours 24 = .ok (.istore_n 3, 1) := by decide +kernel
theorem dX3_hours_25 : decode cX3_hours 25 = .ok (.iload_n 3, 1) := by decide +kernel
theorem dX3_hours_26 : decode cX3_hours 26 = .ok (.iload_n 1, 1) := by decide +kernel
theorem dX3_hours_27 : decode cX3_hours 27 = .ok (.if_icmp .ge 16, 3) := by decide +kernel
theorem dX3_hours_30 : decode cX3_hours 30 = .ok (.iload_n 2, 1) := by decide +kernel
theorem dX3_hours_31 : decode cX3_hours 31 = .ok (.aload_n 0, 1) := by decide +kernel
theorem dX3_hours_32 : decode cX3_hours 32 = .ok (.invokevirtual 118, 3) := by decide +kernel
theorem dX3_hours_35 : decode cX3_hours 35 = .ok (.iadd, 1) := by decide +kernel
theorem dX3_hours_36 : decode cX3_hours 36 = .ok (.istore_n 2, 1) := by decide +kernel
theorem dX3_hours_37 : decode cX3_hours 37 = .ok (.iinc 3 1, 3) := by decide +kernel
theorem dX3_hours_40 : decode cX3_hours 40 = .ok (.goto (-15), 3) := by decide +kernel
theorem dX3_hours_43 : decode cX3_hours 43 = .ok (.iload_n 2, 1) := by decide +kernel
theorem dX3_hours_44 : decode cX3_hours 44 = .ok (.ireturn, 1) := by decide +kernel
set_option maxRecDepth 20000 in
theorem ggX3_below_X2_onBoard : GoodIn wsX3_below wsX2_onBoard := goodIn_r _ [6, 7, 8, 13, 14, 15, 16, 17, 18] (by decide +kernel) (by decide +kernel)
set_option maxRecDepth 20000 in
theorem gX3_below_X2_onBoard : GoodIn wsX3_below (wsV RX3 121 RX2 yX2_onBoard wsX2_onBoard) := goodIn_app (goodIn_of _ (by decide +kernel)) ggX3_below_X2_onBoard
theorem dX3_below_0 : decode cX3_below 0 = .ok (.aload_n 0, 1) := by decide +kernel
theorem dX3_below_1 : decode cX3_below 1 = .ok (.getfield 19, 3) := by decide +kernel
theorem dX3_below_4 : decode cX3_below 4 = .ok (.invokevirtual 121, 3) := by decide +kernel
theorem dX3_below_7 : decode cX3_below 7 = .ok (.ireturn, 1) := by decide +kernel
set_option maxRecDepth 20000 in
theorem ggX3_board_X2_onBoardAt : GoodIn wsX3_board wsX2_onBoardAt := goodIn_r _ [6, 7, 8, 9, 10, 11, 5, 12, 13, 18, 19, 20, 21, 22, 23] (by decide +kernel) (by decide +kernel)
set_option maxRecDepth 20000 in
theorem gX3_board_X2_onBoardAt : GoodIn wsX3_board (wsV RX3 124 RX2 yX2_onBoardAt wsX2_onBoardAt) := goodIn_app (goodIn_of _ (by decide +kernel)) ggX3_board_X2_onBoardAt
theorem dX3_board_0 : decode cX3_board 0 = .ok (.aload_n 0, 1) := by decide +kernel
theorem dX3_board_1 : decode cX3_board 1 = .ok (.getfield 19, 3) := by decide +kernel
theorem dX3_board_4 : decode cX3_board 4 = .ok (.iload_n 1, 1) := by decide +kernel
theorem dX3_board_5 : decode cX3_board 5 = .ok (.invokevirtual 124, 3) := by decide +kernel
theorem dX3_board_8 : decode cX3_board 8 = .ok (.ireturn, 1) := by decide +kernel
set_option maxRecDepth 20000 in
theorem ggX3_lampOf_X3_checkMiner : GoodIn wsX3_lampOf wsX3_checkMiner := goodIn_ca (goodIn_r _ [6, 7, 8, 1, 9, 10, 11, 12, 13, 14, 20, 21, 22, 23, 24, 25, 26, 27, 28, 29] (by decide +kernel) (by decide +kernel)) (goodIn_sub (fun _ h => List.mem_cons_of_mem _ (List.mem_append_right _ h)) (by decide +kernel))
set_option maxRecDepth 20000 in
theorem gX3_lampOf_X3_checkMiner : GoodIn wsX3_lampOf (wsV RX3 59 RX3 yX3_checkMiner wsX3_checkMiner) := goodIn_app (goodIn_of _ (by decide +kernel)) ggX3_lampOf_X3_checkMiner
set_option maxRecDepth 20000 in
theorem ggX3_lampOf_X2_lampHeld : GoodIn wsX3_lampOf wsX2_lampHeld := goodIn_r _ [18, 19, 24, 25, 26, 27, 28, 29] (by decide +kernel) (by decide +kernel)
set_option maxRecDepth 20000 in
theorem gX3_lampOf_X2_lampHeld : GoodIn wsX3_lampOf (wsV RX3 62 RX2 yX2_lampHeld wsX2_lampHeld) := goodIn_app (goodIn_of _ (by decide +kernel)) ggX3_lampOf_X2_lampHeld
theorem dX3_lampOf_0 : decode cX3_lampOf 0 = .ok (.aload_n 0, 1) := by decide +kernel
theorem dX3_lampOf_1 : decode cX3_lampOf 1 = .ok (.iload_n 1, 1) := by decide +kernel
theorem dX3_lampOf_2 : decode cX3_lampOf 2 = .ok (.invokevirtual 59, 3) := by decide +kernel
theorem dX3_lampOf_5 : decode cX3_lampOf 5 = .ok (.aload_n 0, 1) := by decide +kernel
theorem dX3_lampOf_6 : decode cX3_lampOf 6 = .ok (.getfield 19, 3) := by decide +kernel
theorem dX3_lampOf_9 : decode cX3_lampOf 9 = .ok (.iload_n 1, 1) := by decide +kernel
theorem dX3_lampOf_10 : decode cX3_lampOf 10 = .ok (.invokevirtual 62, 3) := by decide +kernel
theorem dX3_lampOf_13 : decode cX3_lampOf 13 = .ok (.ireturn, 1) := by decide +kernel
set_option maxRecDepth 20000 in
theorem ggX3_hoursBelow_X3_checkMiner : GoodIn wsX3_hoursBelow wsX3_checkMiner := goodIn_ca (goodIn_r _ [7, 8, 9, 1, 10, 11, 12, 13, 14, 15, 26, 27, 28, 29, 30, 31, 32, 33, 34, 35] (by decide +kernel) (by decide +kernel)) (goodIn_sub (fun _ h => List.mem_cons_of_mem _ (List.mem_append_right _ h)) (by decide +kernel))
set_option maxRecDepth 20000 in
theorem gX3_hoursBelow_X3_checkMiner : GoodIn wsX3_hoursBelow (wsV RX3 59 RX3 yX3_checkMiner wsX3_checkMiner) := goodIn_app (goodIn_of _ (by decide +kernel)) ggX3_hoursBelow_X3_checkMiner
set_option maxRecDepth 20000 in
theorem ggX3_hoursBelow_X2_lampHeld : GoodIn wsX3_hoursBelow wsX2_lampHeld := goodIn_r _ [19, 20, 30, 31, 32, 33, 34, 35] (by decide +kernel) (by decide +kernel)
set_option maxRecDepth 20000 in
theorem gX3_hoursBelow_X2_lampHeld : GoodIn wsX3_hoursBelow (wsV RX3 62 RX2 yX2_lampHeld wsX2_lampHeld) := goodIn_app (goodIn_of _ (by decide +kernel)) ggX3_hoursBelow_X2_lampHeld
set_option maxRecDepth 20000 in
theorem ggX3_hoursBelow_X2_hungAt : GoodIn wsX3_hoursBelow wsX2_hungAt := goodIn_r _ [24, 25, 30, 31, 32, 33, 34, 35] (by decide +kernel) (by decide +kernel)
set_option maxRecDepth 20000 in
theorem gX3_hoursBelow_X2_hungAt : GoodIn wsX3_hoursBelow (wsV RX3 85 RX2 yX2_hungAt wsX2_hungAt) := goodIn_app (goodIn_of _ (by decide +kernel)) ggX3_hoursBelow_X2_hungAt
theorem dX3_hoursBelow_0 : decode cX3_hoursBelow 0 = .ok (.aload_n 0, 1) := by decide +kernel
theorem dX3_hoursBelow_1 : decode cX3_hoursBelow 1 = .ok (.iload_n 1, 1) := by decide +kernel
theorem dX3_hoursBelow_2 : decode cX3_hoursBelow 2 = .ok (.invokevirtual 59, 3) := by decide +kernel
theorem dX3_hoursBelow_5 : decode cX3_hoursBelow 5 = .ok (.aload_n 0, 1) := by decide +kernel
theorem dX3_hoursBelow_6 : decode cX3_hoursBelow 6 = .ok (.getfield 19, 3) := by decide +kernel
theorem dX3_hoursBelow_9 : decode cX3_hoursBelow 9 = .ok (.iload_n 1, 1) := by decide +kernel
theorem dX3_hoursBelow_10 : decode cX3_hoursBelow 10 = .ok (.invokevirtual 62, 3) := by decide +kernel
theorem dX3_hoursBelow_13 : decode cX3_hoursBelow 13 = .ok (.iconst (-1), 1) := by decide +kernel
theorem dX3_hoursBelow_14 : decode cX3_hoursBelow 14 = .ok (.if_icmp .ne 7, 3) := by decide +kernel
theorem dX3_hoursBelow_17 : decode cX3_hoursBelow 17 = .ok (.iconst (-1), 1) := by decide +kernel
theorem dX3_hoursBelow_18 : decode cX3_hoursBelow 18 = .ok (.goto 16, 3) := by decide +kernel
theorem dX3_hoursBelow_21 : decode cX3_hoursBelow 21 = .ok (.aload_n 0, 1) := by decide +kernel
theorem dX3_hoursBelow_22 : decode cX3_hoursBelow 22 = .ok (.getfield 30, 3) := by decide +kernel
theorem dX3_hoursBelow_25 : decode cX3_hoursBelow 25 = .ok (.aload_n 0, 1) := by decide +kernel
theorem dX3_hoursBelow_26 : decode cX3_hoursBelow 26 = .ok (.getfield 19, 3) := by decide +kernel
theorem dX3_hoursBelow_29 : decode cX3_hoursBelow 29 = .ok (.iload_n 1, 1) := by decide +kernel
theorem dX3_hoursBelow_30 : decode cX3_hoursBelow 30 = .ok (.invokevirtual 85, 3) := by decide +kernel
theorem dX3_hoursBelow_33 : decode cX3_hoursBelow 33 = .ok (.isub, 1) := by decide +kernel
theorem dX3_hoursBelow_34 : decode cX3_hoursBelow 34 = .ok (.ireturn, 1) := by decide +kernel
set_option maxRecDepth 20000 in
theorem ggX3_placeOf_X3_checkLamp : GoodIn wsX3_placeOf wsX3_checkLamp := goodIn_ca (goodIn_r _ [6, 7, 8, 1, 9, 10, 11, 12, 13, 14, 20, 21, 22, 23, 24, 25, 26, 27, 28, 29, 30] (by decide +kernel) (by decide +kernel)) (goodIn_sub (fun _ h => List.mem_cons_of_mem _ (List.mem_append_right _ h)) (by decide +kernel))
set_option maxRecDepth 20000 in
theorem gX3_placeOf_X3_checkLamp : GoodIn wsX3_placeOf (wsV RX3 97 RX3 yX3_checkLamp wsX3_checkLamp) := goodIn_app (goodIn_of _ (by decide +kernel)) ggX3_placeOf_X3_checkLamp
set_option maxRecDepth 20000 in
theorem ggX3_placeOf_X1_placeAt : GoodIn wsX3_placeOf wsX1_placeAt := goodIn_r _ [18, 19, 24, 25, 26, 27, 28, 29, 30] (by decide +kernel) (by decide +kernel)
set_option maxRecDepth 20000 in
theorem gX3_placeOf_X1_placeAt : GoodIn wsX3_placeOf (wsV RX3 100 RX1 yX1_placeAt wsX1_placeAt) := goodIn_app (goodIn_of _ (by decide +kernel)) ggX3_placeOf_X1_placeAt
theorem dX3_placeOf_0 : decode cX3_placeOf 0 = .ok (.aload_n 0, 1) := by decide +kernel
theorem dX3_placeOf_1 : decode cX3_placeOf 1 = .ok (.iload_n 1, 1) := by decide +kernel
theorem dX3_placeOf_2 : decode cX3_placeOf 2 = .ok (.invokevirtual 97, 3) := by decide +kernel
theorem dX3_placeOf_5 : decode cX3_placeOf 5 = .ok (.aload_n 0, 1) := by decide +kernel
theorem dX3_placeOf_6 : decode cX3_placeOf 6 = .ok (.getfield 10, 3) := by decide +kernel
theorem dX3_placeOf_9 : decode cX3_placeOf 9 = .ok (.iload_n 1, 1) := by decide +kernel
theorem dX3_placeOf_10 : decode cX3_placeOf 10 = .ok (.invokevirtual 100, 3) := by decide +kernel
theorem dX3_placeOf_13 : decode cX3_placeOf 13 = .ok (.ireturn, 1) := by decide +kernel
set_option maxRecDepth 20000 in
theorem ggX3_chargeOf_X3_checkLamp : GoodIn wsX3_chargeOf wsX3_checkLamp := goodIn_ca (goodIn_r _ [6, 7, 8, 1, 9, 10, 11, 12, 13, 14, 20, 21, 22, 23, 24, 25, 26, 27, 28, 29, 30] (by decide +kernel) (by decide +kernel)) (goodIn_sub (fun _ h => List.mem_cons_of_mem _ (List.mem_append_right _ h)) (by decide +kernel))
set_option maxRecDepth 20000 in
theorem gX3_chargeOf_X3_checkLamp : GoodIn wsX3_chargeOf (wsV RX3 97 RX3 yX3_checkLamp wsX3_checkLamp) := goodIn_app (goodIn_of _ (by decide +kernel)) ggX3_chargeOf_X3_checkLamp
set_option maxRecDepth 20000 in
theorem ggX3_chargeOf_X1_chargeAt : GoodIn wsX3_chargeOf wsX1_chargeAt := goodIn_r _ [18, 19, 24, 25, 26, 27, 28, 29, 30] (by decide +kernel) (by decide +kernel)
set_option maxRecDepth 20000 in
theorem gX3_chargeOf_X1_chargeAt : GoodIn wsX3_chargeOf (wsV RX3 127 RX1 yX1_chargeAt wsX1_chargeAt) := goodIn_app (goodIn_of _ (by decide +kernel)) ggX3_chargeOf_X1_chargeAt
theorem dX3_chargeOf_0 : decode cX3_chargeOf 0 = .ok (.aload_n 0, 1) := by decide +kernel
theorem dX3_chargeOf_1 : decode cX3_chargeOf 1 = .ok (.iload_n 1, 1) := by decide +kernel
theorem dX3_chargeOf_2 : decode cX3_chargeOf 2 = .ok (.invokevirtual 97, 3) := by decide +kernel
theorem dX3_chargeOf_5 : decode cX3_chargeOf 5 = .ok (.aload_n 0, 1) := by decide +kernel
theorem dX3_chargeOf_6 : decode cX3_chargeOf 6 = .ok (.getfield 10, 3) := by decide +kernel
theorem dX3_chargeOf_9 : decode cX3_chargeOf 9 = .ok (.iload_n 1, 1) := by decide +kernel
theorem dX3_chargeOf_10 : decode cX3_chargeOf 10 = .ok (.invokevirtual 127, 3) := by decide +kernel
theorem dX3_chargeOf_13 : decode cX3_chargeOf 13 = .ok (.dreturn, 1) := by decide +kernel
set_option maxRecDepth 20000 in
theorem ggX3_capacityOf_X3_checkLamp : GoodIn wsX3_capacityOf wsX3_checkLamp := goodIn_ca (goodIn_r _ [6, 7, 8, 1, 9, 10, 11, 12, 13, 14, 20, 21, 22, 23, 24, 25, 26, 27, 28, 29, 30] (by decide +kernel) (by decide +kernel)) (goodIn_sub (fun _ h => List.mem_cons_of_mem _ (List.mem_append_right _ h)) (by decide +kernel))
set_option maxRecDepth 20000 in
theorem gX3_capacityOf_X3_checkLamp : GoodIn wsX3_capacityOf (wsV RX3 97 RX3 yX3_checkLamp wsX3_checkLamp) := goodIn_app (goodIn_of _ (by decide +kernel)) ggX3_capacityOf_X3_checkLamp
set_option maxRecDepth 20000 in
theorem ggX3_capacityOf_X1_capacityAt : GoodIn wsX3_capacityOf wsX1_capacityAt := goodIn_r _ [18, 19, 24, 25, 26, 27, 28, 29, 30] (by decide +kernel) (by decide +kernel)
set_option maxRecDepth 20000 in
theorem gX3_capacityOf_X1_capacityAt : GoodIn wsX3_capacityOf (wsV RX3 131 RX1 yX1_capacityAt wsX1_capacityAt) := goodIn_app (goodIn_of _ (by decide +kernel)) ggX3_capacityOf_X1_capacityAt
theorem dX3_capacityOf_0 : decode cX3_capacityOf 0 = .ok (.aload_n 0, 1) := by decide +kernel
theorem dX3_capacityOf_1 : decode cX3_capacityOf 1 = .ok (.iload_n 1, 1) := by decide +kernel
theorem dX3_capacityOf_2 : decode cX3_capacityOf 2 = .ok (.invokevirtual 97, 3) := by decide +kernel
theorem dX3_capacityOf_5 : decode cX3_capacityOf 5 = .ok (.aload_n 0, 1) := by decide +kernel
theorem dX3_capacityOf_6 : decode cX3_capacityOf 6 = .ok (.getfield 10, 3) := by decide +kernel
theorem dX3_capacityOf_9 : decode cX3_capacityOf 9 = .ok (.iload_n 1, 1) := by decide +kernel
theorem dX3_capacityOf_10 : decode cX3_capacityOf 10 = .ok (.invokevirtual 131, 3) := by decide +kernel
theorem dX3_capacityOf_13 : decode cX3_capacityOf 13 = .ok (.dreturn, 1) := by decide +kernel
set_option maxRecDepth 20000 in
theorem ggX3_turnsOf_X3_checkLamp : GoodIn wsX3_turnsOf wsX3_checkLamp := goodIn_ca (goodIn_r _ [6, 7, 8, 1, 9, 10, 11, 12, 13, 14, 20, 21, 22, 23, 24, 25, 26, 27, 28, 29, 30] (by decide +kernel) (by decide +kernel)) (goodIn_sub (fun _ h => List.mem_cons_of_mem _ (List.mem_append_right _ h)) (by decide +kernel))
set_option maxRecDepth 20000 in
theorem gX3_turnsOf_X3_checkLamp : GoodIn wsX3_turnsOf (wsV RX3 97 RX3 yX3_checkLamp wsX3_checkLamp) := goodIn_app (goodIn_of _ (by decide +kernel)) ggX3_turnsOf_X3_checkLamp
set_option maxRecDepth 20000 in
theorem ggX3_turnsOf_X1_turnsAt : GoodIn wsX3_turnsOf wsX1_turnsAt := goodIn_r _ [18, 19, 24, 25, 26, 27, 28, 29, 30] (by decide +kernel) (by decide +kernel)
set_option maxRecDepth 20000 in
theorem gX3_turnsOf_X1_turnsAt : GoodIn wsX3_turnsOf (wsV RX3 134 RX1 yX1_turnsAt wsX1_turnsAt) := goodIn_app (goodIn_of _ (by decide +kernel)) ggX3_turnsOf_X1_turnsAt
theorem dX3_turnsOf_0 : decode cX3_turnsOf 0 = .ok (.aload_n 0, 1) := by decide +kernel
theorem dX3_turnsOf_1 : decode cX3_turnsOf 1 = .ok (.iload_n 1, 1) := by decide +kernel
theorem dX3_turnsOf_2 : decode cX3_turnsOf 2 = .ok (.invokevirtual 97, 3) := by decide +kernel
theorem dX3_turnsOf_5 : decode cX3_turnsOf 5 = .ok (.aload_n 0, 1) := by decide +kernel
theorem dX3_turnsOf_6 : decode cX3_turnsOf 6 = .ok (.getfield 10, 3) := by decide +kernel
theorem dX3_turnsOf_9 : decode cX3_turnsOf 9 = .ok (.iload_n 1, 1) := by decide +kernel
theorem dX3_turnsOf_10 : decode cX3_turnsOf 10 = .ok (.invokevirtual 134, 3) := by decide +kernel
theorem dX3_turnsOf_13 : decode cX3_turnsOf 13 = .ok (.ireturn, 1) := by decide +kernel
set_option maxRecDepth 20000 in
theorem ggX3_ready_X3_checkKind : GoodIn wsX3_ready wsX3_checkKind := goodIn_ca (goodIn_r _ [5, 6, 7] (by decide +kernel) (by decide +kernel)) (goodIn_sub (fun _ h => List.mem_cons_of_mem _ (List.mem_append_right _ h)) (by decide +kernel))
set_option maxRecDepth 20000 in
theorem gX3_ready_X3_checkKind : GoodIn wsX3_ready (va_wsS RX3 34 yX3_checkKind wsX3_checkKind) := goodIn_app (goodIn_of _ (by decide +kernel)) ggX3_ready_X3_checkKind
set_option maxRecDepth 20000 in
theorem ggX3_ready_X1_countIssuable : GoodIn wsX3_ready wsX1_countIssuable := goodIn_r _ [12, 13, 14, 15, 16, 11, 17, 18, 19, 20, 21, 26, 27, 28, 29, 30, 31, 32] (by decide +kernel) (by decide +kernel)
set_option maxRecDepth 20000 in
theorem gX3_ready_X1_countIssuable : GoodIn wsX3_ready (wsV RX3 137 RX1 yX1_countIssuable wsX1_countIssuable) := goodIn_app (goodIn_of _ (by decide +kernel)) ggX3_ready_X1_countIssuable
theorem dX3_ready_0 : decode cX3_ready 0 = .ok (.iload_n 1, 1) := by decide +kernel
theorem dX3_ready_1 : decode cX3_ready 1 = .ok (.invokestatic 34, 3) := by decide +kernel
theorem dX3_ready_4 : decode cX3_ready 4 = .ok (.aload_n 0, 1) := by decide +kernel
theorem dX3_ready_5 : decode cX3_ready 5 = .ok (.getfield 10, 3) := by decide +kernel
theorem dX3_ready_8 : decode cX3_ready 8 = .ok (.iload_n 1, 1) := by decide +kernel
theorem dX3_ready_9 : decode cX3_ready 9 = .ok (.invokevirtual 137, 3) := by decide +kernel
theorem dX3_ready_12 : decode cX3_ready 12 = .ok (.ireturn, 1) := by decide +kernel
set_option maxRecDepth 20000 in
theorem ggX3_spares_X2_size : GoodIn wsX3_spares wsX2_size := goodIn_r _ [7, 8, 29, 30, 31, 32, 33, 34] (by decide +kernel) (by decide +kernel)
set_option maxRecDepth 20000 in
theorem gX3_spares_X2_size : GoodIn wsX3_spares (wsV RX3 53 RX2 yX2_size wsX2_size) := goodIn_app (goodIn_of _ (by decide +kernel)) ggX3_spares_X2_size
set_option maxRecDepth 20000 in
theorem ggX3_spares_X2_lampHeld : GoodIn wsX3_spares wsX2_lampHeld := goodIn_r _ [12, 13, 29, 30, 31, 32, 33, 34] (by decide +kernel) (by decide +kernel)
set_option maxRecDepth 20000 in
theorem gX3_spares_X2_lampHeld : GoodIn wsX3_spares (wsV RX3 62 RX2 yX2_lampHeld wsX2_lampHeld) := goodIn_app (goodIn_of _ (by decide +kernel)) ggX3_spares_X2_lampHeld
set_option maxRecDepth 20000 in
theorem ggX3_spares_X1_kindAt : GoodIn wsX3_spares wsX1_kindAt := goodIn_r _ [18, 19, 35, 36, 37, 38, 39, 40, 41] (by decide +kernel) (by decide +kernel)
set_option maxRecDepth 20000 in
theorem gX3_spares_X1_kindAt : GoodIn wsX3_spares (wsV RX3 140 RX1 yX1_kindAt wsX1_kindAt) := goodIn_app (goodIn_of _ (by decide +kernel)) ggX3_spares_X1_kindAt
set_option maxRecDepth 20000 in
theorem ggX3_spares_X2_kindAt : GoodIn wsX3_spares wsX2_kindAt := goodIn_r _ [23, 24, 29, 30, 31, 32, 33, 34] (by decide +kernel) (by decide +kernel)
set_option maxRecDepth 20000 in
theorem gX3_spares_X2_kindAt : GoodIn wsX3_spares (wsV RX3 67 RX2 yX2_kindAt wsX2_kindAt) := goodIn_app (goodIn_of _ (by decide +kernel)) ggX3_spares_X2_kindAt
theorem dX3_spares_0 : decode cX3_spares 0 = .ok (.iconst 0, 1) := by decide +kernel
theorem dX3_spares_1 : decode cX3_spares 1 = .ok (.istore_n 1, 1) := by decide +kernel
theorem dX3_spares_2 : decode cX3_spares 2 = .ok (.iconst 0, 1) := by decide +kernel
theorem dX3_spares_3 : decode cX3_spares 3 = .ok (.istore_n 2, 1) := by decide +kernel
theorem dX3_spares_4 : decode cX3_spares 4 = .ok (.iload_n 2, 1) := by decide +kernel
theorem dX3_spares_5 : decode cX3_spares 5 = .ok (.aload_n 0, 1) := by decide +kernel
theorem dX3_spares_6 : decode cX3_spares 6 = .ok (.getfield 19, 3) := by decide +kernel
theorem dX3_spares_9 : decode cX3_spares 9 = .ok (.invokevirtual 53, 3) := by decide +kernel
theorem dX3_spares_12 : decode cX3_spares 12 = .ok (.if_icmp .ge 45, 3) := by decide +kernel
theorem dX3_spares_15 : decode cX3_spares 15 = .ok (.aload_n 0, 1) := by decide +kernel
theorem dX3_spares_16 : decode cX3_spares 16 = .ok (.getfield 19, 3) := by decide +kernel
theorem dX3_spares_19 : decode cX3_spares 19 = .ok (.iload_n 2, 1) := by decide +kernel
theorem dX3_spares_20 : decode cX3_spares 20 = .ok (.invokevirtual 62, 3) := by decide +kernel
theorem dX3_spares_23 : decode cX3_spares 23 = .ok (.istore_n 3, 1) := by decide +kernel
theorem dX3_spares_24 : decode cX3_spares 24 = .ok (.iload_n 3, 1) := by decide +kernel
theorem dX3_spares_25 : decode cX3_spares 25 = .ok (.iconst (-1), 1) := by decide +kernel
theorem dX3_spares_26 : decode cX3_spares 26 = .ok (.if_icmp .eq 25, 3) := by decide +kernel
theorem dX3_spares_29 : decode cX3_spares 29 = .ok (.aload_n 0, 1) := by decide +kernel
theorem dX3_spares_30 : decode cX3_spares 30 = .ok (.getfield 10, 3) := by decide +kernel
theorem dX3_spares_33 : decode cX3_spares 33 = .ok (.iload_n 3, 1) := by decide +kernel
theorem dX3_spares_34 : decode cX3_spares 34 = .ok (.invokevirtual 140, 3) := by decide +kernel
theorem dX3_spares_37 : decode cX3_spares 37 = .ok (.aload_n 0, 1) := by decide +kernel
theorem dX3_spares_38 : decode cX3_spares 38 = .ok (.getfield 19, 3) := by decide +kernel
theorem dX3_spares_41 : decode cX3_spares 41 = .ok (.iload_n 2, 1) := by decide +kernel
theorem dX3_spares_42 : decode cX3_spares 42 = .ok (.invokevirtual 67, 3) := by decide +kernel
theorem dX3_spares_45 : decode cX3_spares 45 = .ok (.if_icmp .le 6, 3) := by decide +kernel
theorem dX3_spares_48 : decode cX3_spares 48 = .ok (.iinc 1 1, 3) := by decide +kernel
theorem dX3_spares_51 : decode cX3_spares 51 = .ok (.iinc 2 1, 3) := by decide +kernel
theorem dX3_spares_54 : decode cX3_spares 54 = .ok (.goto (-50), 3) := by decide +kernel
theorem dX3_spares_57 : decode cX3_spares 57 = .ok (.iload_n 1, 1) := by decide +kernel
theorem dX3_spares_58 : decode cX3_spares 58 = .ok (.ireturn, 1) := by decide +kernel
set_option maxRecDepth 20000 in
theorem ggX3_alarm_X0_lastingAt : GoodIn wsX3_alarm wsX0_lastingAt := goodIn_r _ [6, 7, 8, 9, 10, 5, 11, 12, 13, 14, 15, 20] (by decide +kernel) (by decide +kernel)
set_option maxRecDepth 20000 in
theorem gX3_alarm_X0_lastingAt : GoodIn wsX3_alarm (wsV RX3 141 RX0 yX0_lastingAt wsX0_lastingAt) := goodIn_app (goodIn_of _ (by decide +kernel)) ggX3_alarm_X0_lastingAt
theorem dX3_alarm_0 : decode cX3_alarm 0 = .ok (.aload_n 0, 1) := by decide +kernel
theorem dX3_alarm_1 : decode cX3_alarm 1 = .ok (.getfield 26, 3) := by decide +kernel
theorem dX3_alarm_4 : decode cX3_alarm 4 = .ok (.iload_n 1, 1) := by decide +kernel
theorem dX3_alarm_5 : decode cX3_alarm 5 = .ok (.invokevirtual 141, 3) := by decide +kernel
theorem dX3_alarm_8 : decode cX3_alarm 8 = .ok (.ireturn, 1) := by decide +kernel
set_option maxRecDepth 20000 in
theorem ggX3_lightLeft_X3_checkMiner : GoodIn wsX3_lightLeft wsX3_checkMiner := goodIn_ca (goodIn_r _ [7, 8, 9, 1, 10, 11, 12, 13, 14, 15, 27, 28, 29, 30, 31, 32, 33, 34, 35, 36] (by decide +kernel) (by decide +kernel)) (goodIn_sub (fun _ h => List.mem_cons_of_mem _ (List.mem_append_right _ h)) (by decide +kernel))
set_option maxRecDepth 20000 in
theorem gX3_lightLeft_X3_checkMiner : GoodIn wsX3_lightLeft (wsV RX3 59 RX3 yX3_checkMiner wsX3_checkMiner) := goodIn_app (goodIn_of _ (by decide +kernel)) ggX3_lightLeft_X3_checkMiner
set_option maxRecDepth 20000 in
theorem ggX3_lightLeft_X2_lampHeld : GoodIn wsX3_lightLeft wsX2_lampHeld := goodIn_r _ [19, 20, 31, 32, 33, 34, 35, 36] (by decide +kernel) (by decide +kernel)
set_option maxRecDepth 20000 in
theorem gX3_lightLeft_X2_lampHeld : GoodIn wsX3_lightLeft (wsV RX3 62 RX2 yX2_lampHeld wsX2_lampHeld) := goodIn_app (goodIn_of _ (by decide +kernel)) ggX3_lightLeft_X2_lampHeld
set_option maxRecDepth 20000 in
theorem ggX3_lightLeft_X1_chargeAt : GoodIn wsX3_lightLeft wsX1_chargeAt := goodIn_r _ [25, 26, 37, 38, 39, 40, 41, 42, 43] (by decide +kernel) (by decide +kernel)
set_option maxRecDepth 20000 in
theorem gX3_lightLeft_X1_chargeAt : GoodIn wsX3_lightLeft (wsV RX3 127 RX1 yX1_chargeAt wsX1_chargeAt) := goodIn_app (goodIn_of _ (by decide +kernel)) ggX3_lightLeft_X1_chargeAt
theorem dX3_lightLeft_0 : decode cX3_lightLeft 0 = .ok (.aload_n 0, 1) := by decide +kernel
theorem dX3_lightLeft_1 : decode cX3_lightLeft 1 = .ok (.iload_n 1, 1) := by decide +kernel
theorem dX3_lightLeft_2 : decode cX3_lightLeft 2 = .ok (.invokevirtual 59, 3) := by decide +kernel
theorem dX3_lightLeft_5 : decode cX3_lightLeft 5 = .ok (.aload_n 0, 1) := by decide +kernel
theorem dX3_lightLeft_6 : decode cX3_lightLeft 6 = .ok (.getfield 19, 3) := by decide +kernel
theorem dX3_lightLeft_9 : decode cX3_lightLeft 9 = .ok (.iload_n 1, 1) := by decide +kernel
theorem dX3_lightLeft_10 : decode cX3_lightLeft 10 = .ok (.invokevirtual 62, 3) := by decide +kernel
theorem dX3_lightLeft_13 : decode cX3_lightLeft 13 = .ok (.istore_n 2, 1) := by decide +kernel
theorem dX3_lightLeft_14 : decode cX3_lightLeft 14 = .ok (.iload_n 2, 1) := by decide +kernel
theorem dX3_lightLeft_15 : decode cX3_lightLeft 15 = .ok (.iconst (-1), 1) := by decide +kernel
theorem dX3_lightLeft_16 : decode cX3_lightLeft 16 = .ok (.if_icmp .ne 7, 3) := by decide +kernel
theorem dX3_lightLeft_19 : decode cX3_lightLeft 19 = .ok (.iconst (-1), 1) := by decide +kernel
theorem dX3_lightLeft_20 : decode cX3_lightLeft 20 = .ok (.goto 12, 3) := by decide +kernel
theorem dX3_lightLeft_23 : decode cX3_lightLeft 23 = .ok (.aload_n 0, 1) := by decide +kernel
theorem dX3_lightLeft_24 : decode cX3_lightLeft 24 = .ok (.getfield 10, 3) := by decide +kernel
theorem dX3_lightLeft_27 : decode cX3_lightLeft 27 = .ok (.iload_n 2, 1) := by decide +kernel
theorem dX3_lightLeft_28 : decode cX3_lightLeft 28 = .ok (.invokevirtual 127, 3) := by decide +kernel
theorem dX3_lightLeft_31 : decode cX3_lightLeft 31 = .ok (.d2i, 1) := by decide +kernel
theorem dX3_lightLeft_32 : decode cX3_lightLeft 32 = .ok (.ireturn, 1) := by decide +kernel
set_option maxRecDepth 20000 in
theorem ggX3_rackCharge_X1_hundredthsOnRack : GoodIn wsX3_rackCharge wsX1_hundredthsOnRack := goodIn_r _ [6, 7, 8, 9, 10, 11, 16, 17, 18, 19, 20, 21, 22] (by decide +kernel) (by decide +kernel)
set_option maxRecDepth 20000 in
theorem gX3_rackCharge_X1_hundredthsOnRack : GoodIn wsX3_rackCharge (wsV RX3 144 RX1 yX1_hundredthsOnRack wsX1_hundredthsOnRack) := goodIn_app (goodIn_of _ (by decide +kernel)) ggX3_rackCharge_X1_hundredthsOnRack
theorem dX3_rackCharge_0 : decode cX3_rackCharge 0 = .ok (.aload_n 0, 1) := by decide +kernel
theorem dX3_rackCharge_1 : decode cX3_rackCharge 1 = .ok (.getfield 10, 3) := by decide +kernel
theorem dX3_rackCharge_4 : decode cX3_rackCharge 4 = .ok (.invokevirtual 144, 3) := by decide +kernel
theorem dX3_rackCharge_7 : decode cX3_rackCharge 7 = .ok (.ireturn, 1) := by decide +kernel
theorem dX3_checkKind_0 : decode cX3_checkKind 0 = .ok (.iload_n 0, 1) := by decide +kernel
theorem dX3_checkKind_1 : decode cX3_checkKind 1 = .ok (.ifCond .lt 8, 3) := by decide +kernel
theorem dX3_checkKind_4 : decode cX3_checkKind 4 = .ok (.iload_n 0, 1) := by decide +kernel
theorem dX3_checkKind_5 : decode cX3_checkKind 5 = .ok (.iconst 3, 1) := by decide +kernel
theorem dX3_checkKind_6 : decode cX3_checkKind 6 = .ok (.if_icmp .lt 13, 3) := by decide +kernel
theorem dX3_checkKind_9 : decode cX3_checkKind 9 = .ok (.new 113, 3) := by decide +kernel
theorem dX3_checkKind_12 : decode cX3_checkKind 12 = .ok (.dup, 1) := by decide +kernel
theorem dX3_checkKind_13 : decode cX3_checkKind 13 = .ok (.ldc 147, 2) := by decide +kernel
theorem dX3_checkKind_15 : decode cX3_checkKind 15 = .ok (.invokespecial 117, 3) := by decide +kernel
theorem dX3_checkKind_18 : decode cX3_checkKind 18 = .ok (.athrow, 1) := by decide +kernel
theorem dX3_checkKind_19 : decode cX3_checkKind 19 = .ok (.return_, 1) := by decide +kernel
set_option maxRecDepth 20000 in
theorem ggX3_checkMiner_X2_size : GoodIn wsX3_checkMiner wsX2_size := goodIn_r _ [8, 9, 14, 15, 16, 17, 18, 19] (by decide +kernel) (by decide +kernel)
set_option maxRecDepth 20000 in
theorem gX3_checkMiner_X2_size : GoodIn wsX3_checkMiner (wsV RX3 53 RX2 yX2_size wsX2_size) := goodIn_app (goodIn_of _ (by decide +kernel)) ggX3_checkMiner_X2_size
theorem dX3_checkMiner_0 : decode cX3_checkMiner 0 = .ok (.iload_n 1, 1) := by decide +kernel
theorem dX3_checkMiner_1 : decode cX3_checkMiner 1 = .ok (.ifCond .lt 14, 3) := by decide +kernel
theorem dX3_checkMiner_4 : decode cX3_checkMiner 4 = .ok (.iload_n 1, 1) := by decide +kernel
theorem dX3_checkMiner_5 : decode cX3_checkMiner 5 = .ok (.aload_n 0, 1) := by decide +kernel
theorem dX3_checkMiner_6 : decode cX3_checkMiner 6 = .ok (.getfield 19, 3) := by decide +kernel
theorem dX3_checkMiner_9 : decode cX3_checkMiner 9 = .ok (.invokevirtual 53, 3) := by decide +kernel
theorem dX3_checkMiner_12 : decode cX3_checkMiner 12 = .ok (.if_icmp .lt 13, 3) := by decide +kernel
theorem dX3_checkMiner_15 : decode cX3_checkMiner 15 = .ok (.new 149, 3) := by decide +kernel
theorem dX3_checkMiner_18 : decode cX3_checkMiner 18 = .ok (.dup, 1) := by decide +kernel
theorem dX3_checkMiner_19 : decode cX3_checkMiner 19 = .ok (.ldc 151, 2) := by decide +kernel
theorem dX3_checkMiner_21 : decode cX3_checkMiner 21 = .ok (.invokespecial 153, 3) := by decide +kernel
theorem dX3_checkMiner_24 : decode cX3_checkMiner 24 = .ok (.athrow, 1) := by decide +kernel
theorem dX3_checkMiner_25 : decode cX3_checkMiner 25 = .ok (.return_, 1) := by decide +kernel
set_option maxRecDepth 20000 in
theorem ggX3_checkLamp_X1_size : GoodIn wsX3_checkLamp wsX1_size := goodIn_r _ [8, 9, 14, 15, 16, 17, 18, 19, 20] (by decide +kernel) (by decide +kernel)
set_option maxRecDepth 20000 in
theorem gX3_checkLamp_X1_size : GoodIn wsX3_checkLamp (wsV RX3 38 RX1 yX1_size wsX1_size) := goodIn_app (goodIn_of _ (by decide +kernel)) ggX3_checkLamp_X1_size
theorem dX3_checkLamp_0 : decode cX3_checkLamp 0 = .ok (.iload_n 1, 1) := by decide +kernel
theorem dX3_checkLamp_1 : decode cX3_checkLamp 1 = .ok (.ifCond .lt 14, 3) := by decide +kernel
theorem dX3_checkLamp_4 : decode cX3_checkLamp 4 = .ok (.iload_n 1, 1) := by decide +kernel
theorem dX3_checkLamp_5 : decode cX3_checkLamp 5 = .ok (.aload_n 0, 1) := by decide +kernel
theorem dX3_checkLamp_6 : decode cX3_checkLamp 6 = .ok (.getfield 10, 3) := by decide +kernel
theorem dX3_checkLamp_9 : decode cX3_checkLamp 9 = .ok (.invokevirtual 38, 3) := by decide +kernel
theorem dX3_checkLamp_12 : decode cX3_checkLamp 12 = .ok (.if_icmp .lt 13, 3) := by decide +kernel
theorem dX3_checkLamp_15 : decode cX3_checkLamp 15 = .ok (.new 149, 3) := by decide +kernel
theorem dX3_checkLamp_18 : decode cX3_checkLamp 18 = .ok (.dup, 1) := by decide +kernel
theorem dX3_checkLamp_19 : decode cX3_checkLamp 19 = .ok (.ldc 154, 2) := by decide +kernel
theorem dX3_checkLamp_21 : decode cX3_checkLamp 21 = .ok (.invokespecial 153, 3) := by decide +kernel
theorem dX3_checkLamp_24 : decode cX3_checkLamp 24 = .ok (.athrow, 1) := by decide +kernel
theorem dX3_checkLamp_25 : decode cX3_checkLamp 25 = .ok (.return_, 1) := by decide +kernel
set_option maxRecDepth 20000 in
theorem ggX3_passHour_X1_burn : GoodIn wsX3_passHour wsX1_burn := goodIn_r _ [8, 9, 10, 11, 12, 13, 56, 57, 58, 59, 60, 61, 62] (by decide +kernel) (by decide +kernel)
set_option maxRecDepth 20000 in
theorem gX3_passHour_X1_burn : GoodIn wsX3_passHour (wsV RX3 156 RX1 yX1_burn wsX1_burn) := goodIn_app (goodIn_of _ (by decide +kernel)) ggX3_passHour_X1_burn
set_option maxRecDepth 20000 in
theorem ggX3_passHour_X1_load : GoodIn wsX3_passHour wsX1_load := goodIn_r _ [17, 9, 10, 13, 18, 19, 56, 57, 58, 59, 60, 61, 62] (by decide +kernel) (by decide +kernel)
set_option maxRecDepth 20000 in
theorem gX3_passHour_X1_load : GoodIn wsX3_passHour (wsV RX3 159 RX1 yX1_load wsX1_load) := goodIn_app (goodIn_of _ (by decide +kernel)) ggX3_passHour_X1_load
set_option maxRecDepth 20000 in
theorem ggX3_passHour_X2_size : GoodIn wsX3_passHour wsX2_size := goodIn_r _ [24, 25, 63, 64, 65, 66, 67, 68] (by decide +kernel) (by decide +kernel)
set_option maxRecDepth 20000 in
theorem gX3_passHour_X2_size : GoodIn wsX3_passHour (wsV RX3 53 RX2 yX2_size wsX2_size) := goodIn_app (goodIn_of _ (by decide +kernel)) ggX3_passHour_X2_size
set_option maxRecDepth 20000 in
theorem ggX3_passHour_X2_lampHeld : GoodIn wsX3_passHour wsX2_lampHeld := goodIn_r _ [29, 30, 63, 64, 65, 66, 67, 68] (by decide +kernel) (by decide +kernel)
set_option maxRecDepth 20000 in
theorem gX3_passHour_X2_lampHeld : GoodIn wsX3_passHour (wsV RX3 62 RX2 yX2_lampHeld wsX2_lampHeld) := goodIn_app (goodIn_of _ (by decide +kernel)) ggX3_passHour_X2_lampHeld
set_option maxRecDepth 20000 in
theorem ggX3_passHour_X3_beginAlarms : GoodIn wsX3_passHour wsX3_beginAlarms := goodIn_r _ [35, 1, 3, 36, 2, 37, 38, 39, 23, 40, 41, 42, 43, 44, 45, 46, 47, 48, 49, 50, 7, 51, 13, 52, 53, 54, 55, 63, 64, 65, 66, 67, 68, 69, 56, 57, 58, 59, 60, 61, 62] (by decide +kernel) (by decide +kernel)
set_option maxRecDepth 20000 in
theorem gX3_passHour_X3_beginAlarms : GoodIn wsX3_passHour (wsV RX3 162 RX3 yX3_beginAlarms wsX3_beginAlarms) := goodIn_app (goodIn_of _ (by decide +kernel)) ggX3_passHour_X3_beginAlarms
theorem dX3_passHour_0 : decode cX3_passHour 0 = .ok (.aload_n 0, 1) := by decide +kernel
theorem dX3_passHour_1 : decode cX3_passHour 1 = .ok (.dup, 1) := by decide +kernel
theorem dX3_passHour_2 : decode cX3_passHour 2 = .ok (.getfield 30, 3) := by decide +kernel
theorem dX3_passHour_5 : decode cX3_passHour 5 = .ok (.iconst 1, 1) := by decide +kernel
theorem dX3_passHour_6 : decode cX3_passHour 6 = .ok (.iadd, 1) := by decide +kernel
theorem dX3_passHour_7 : decode cX3_passHour 7 = .ok (.putfield 30, 3) := by decide +kernel
theorem dX3_passHour_10 : decode cX3_passHour 10 = .ok (.aload_n 0, 1) := by decide +kernel
theorem dX3_passHour_11 : decode cX3_passHour 11 = .ok (.getfield 10, 3) := by decide +kernel
theorem dX3_passHour_14 : decode cX3_passHour 14 = .ok (.invokevirtual 156, 3) := by decide +kernel
theorem dX3_passHour_17 : decode cX3_passHour 17 = .ok (.aload_n 0, 1) := by decide +kernel
theorem dX3_passHour_18 : decode cX3_passHour 18 = .ok (.getfield 10, 3) := by decide +kernel
theorem dX3_passHour_21 : decode cX3_passHour 21 = .ok (.invokevirtual 159, 3) := by decide +kernel
theorem dX3_passHour_24 : decode cX3_passHour 24 = .ok (.iconst 0, 1) := by decide +kernel
theorem dX3_passHour_25 : decode cX3_passHour 25 = .ok (.istore_n 1, 1) := by decide +kernel
theorem dX3_passHour_26 : decode cX3_passHour 26 = .ok (.iconst 0, 1) := by decide +kernel
theorem dX3_passHour_27 : decode cX3_passHour 27 = .ok (.istore_n 2, 1) := by decide +kernel
theorem dX3_passHour_28 : decode cX3_passHour 28 = .ok (.iload_n 2, 1) := by decide +kernel
theorem dX3_passHour_29 : decode cX3_passHour 29 = .ok (.aload_n 0, 1) := by decide +kernel
theorem dX3_passHour_30 : decode cX3_passHour 30 = .ok (.getfield 19, 3) := by decide +kernel
theorem dX3_passHour_33 : decode cX3_passHour 33 = .ok (.invokevirtual 53, 3) := by decide +kernel
theorem dX3_passHour_36 : decode cX3_passHour 36 = .ok (.if_icmp .ge 32, 3) := by decide +kernel
theorem dX3_passHour_39 : decode cX3_passHour 39 = .ok (.aload_n 0, 1) := by decide +kernel
theorem dX3_passHour_40 : decode cX3_passHour 40 = .ok (.getfield 19, 3) := by decide +kernel
theorem dX3_passHour_43 : decode cX3_passHour 43 = .ok (.iload_n 2, 1) := by decide +kernel
theorem dX3_passHour_44 : decode cX3_passHour 44 = .ok (.invokevirtual 62, 3) := by decide +kernel
theorem dX3_passHour_47 : decode cX3_passHour 47 = .ok (.istore_n 3, 1) := by decide +kernel
theorem dX3_passHour_48 : decode cX3_passHour 48 = .ok (.iload_n 3, 1) := by decide +kernel
theorem dX3_passHour_49 : decode cX3_passHour 49 = .ok (.iconst (-1), 1) := by decide +kernel
theorem dX3_passHour_50 : decode cX3_passHour 50 = .ok (.if_icmp .eq 12, 3) := by decide +kernel
theorem dX3_passHour_53 : decode cX3_passHour 53 = .ok (.iload_n 1, 1) := by decide +kernel
theorem dX3_passHour_54 : decode cX3_passHour 54 = .ok (.aload_n 0, 1) := by decide +kernel
theorem dX3_passHour_55 : decode cX3_passHour 55 = .ok (.iload_n 2, 1) := by decide +kernel
theorem dX3_passHour_56 : decode cX3_passHour 56 = .ok (.iload_n 3, 1) := by decide +kernel
theorem dX3_passHour_57 : decode cX3_passHour 57 = .ok (.invokevirtual 162, 3) := by decide +kernel
theorem dX3_passHour_60 : decode cX3_passHour 60 = .ok (.iadd, 1) := by decide +kernel
theorem dX3_passHour_61 : decode cX3_passHour 61 = .ok (.istore_n 1, 1) := by decide +kernel
theorem dX3_passHour_62 : decode cX3_passHour 62 = .ok (.iinc 2 1, 3) := by decide +kernel
theorem dX3_passHour_65 : decode cX3_passHour 65 = .ok (.goto (-37), 3) := by decide +kernel
theorem dX3_passHour_68 : decode cX3_passHour 68 = .ok (.iload_n 1, 1) := by decide +kernel
theorem dX3_passHour_69 : decode cX3_passHour 69 = .ok (.ireturn, 1) := by decide +kernel
set_option maxRecDepth 20000 in
theorem ggX3_beginAlarms_X2_hungAt : GoodIn wsX3_beginAlarms wsX2_hungAt := goodIn_r _ [9, 10, 27, 28, 29, 30, 31, 32] (by decide +kernel) (by decide +kernel)
set_option maxRecDepth 20000 in
theorem gX3_beginAlarms_X2_hungAt : GoodIn wsX3_beginAlarms (wsV RX3 85 RX2 yX2_hungAt wsX2_hungAt) := goodIn_app (goodIn_of _ (by decide +kernel)) ggX3_beginAlarms_X2_hungAt
set_option maxRecDepth 20000 in
theorem ggX3_beginAlarms_X0_begin : GoodIn wsX3_beginAlarms wsX0_begin := goodIn_r _ [15, 16, 33] (by decide +kernel) (by decide +kernel)
set_option maxRecDepth 20000 in
theorem gX3_beginAlarms_X0_begin : GoodIn wsX3_beginAlarms (wsV RX3 166 RX0 yX0_begin wsX0_begin) := goodIn_app (goodIn_of _ (by decide +kernel)) ggX3_beginAlarms_X0_begin
set_option maxRecDepth 20000 in
theorem ggX3_beginAlarms_X1_chargeAt : GoodIn wsX3_beginAlarms wsX1_chargeAt := goodIn_r _ [21, 22, 34, 35, 36, 37, 38, 39, 40] (by decide +kernel) (by decide +kernel)
set_option maxRecDepth 20000 in
theorem gX3_beginAlarms_X1_chargeAt : GoodIn wsX3_beginAlarms (wsV RX3 127 RX1 yX1_chargeAt wsX1_chargeAt) := goodIn_app (goodIn_of _ (by decide +kernel)) ggX3_beginAlarms_X1_chargeAt
theorem dX3_beginAlarms_0 : decode cX3_beginAlarms 0 = .ok (.iconst 0, 1) := by decide +kernel
theorem dX3_beginAlarms_1 : decode cX3_beginAlarms 1 = .ok (.istore_n 3, 1) := by decide +kernel
theorem dX3_beginAlarms_2 : decode cX3_beginAlarms 2 = .ok (.aload_n 0, 1) := by decide +kernel
theorem dX3_beginAlarms_3 : decode cX3_beginAlarms 3 = .ok (.getfield 30, 3) := by decide +kernel
theorem dX3_beginAlarms_6 : decode cX3_beginAlarms 6 = .ok (.aload_n 0, 1) := by decide +kernel
theorem dX3_beginAlarms_7 : decode cX3_beginAlarms 7 = .ok (.getfield 19, 3) := by decide +kernel
theorem dX3_beginAlarms_10 : decode cX3_beginAlarms 10 = .ok (.iload_n 1, 1) := by decide +kernel
theorem dX3_beginAlarms_11 : decode cX3_beginAlarms 11 = .ok (.invokevirtual 85, 3) := by decide +kernel
theorem dX3_beginAlarms_14 : decode cX3_beginAlarms 14 = .ok (.isub, 1) := by decide +kernel
theorem dX3_beginAlarms_15 : decode cX3_beginAlarms 15 = .ok (.bipush 9, 2) := by decide +kernel
theorem dX3_beginAlarms_17 : decode cX3_beginAlarms 17 = .ok (.if_icmp .le 22, 3) := by decide +kernel
theorem dX3_beginAlarms_20 : decode cX3_beginAlarms 20 = .ok (.aload_n 0, 1) := by decide +kernel
theorem dX3_beginAlarms_21 : decode cX3_beginAlarms 21 = .ok (.getfield 26, 3) := by decide +kernel
theorem dX3_beginAlarms_24 : decode cX3_beginAlarms 24 = .ok (.iload_n 1, 1) := by decide +kernel
theorem dX3_beginAlarms_25 : decode cX3_beginAlarms 25 = .ok (.iconst 0, 1) := by decide +kernel
theorem dX3_beginAlarms_26 : decode cX3_beginAlarms 26 = .ok (.aload_n 0, 1) := by decide +kernel
theorem dX3_beginAlarms_27 : decode cX3_beginAlarms 27 = .ok (.getfield 30, 3) := by decide +kernel
theorem dX3_beginAlarms_30 : decode cX3_beginAlarms 30 = .ok (.invokevirtual 166, 3) := by decide +kernel
theorem dX3_beginAlarms_33 : decode cX3_beginAlarms 33 = .ok (.ifCond .eq 6, 3) := by decide +kernel
theorem dX3_beginAlarms_36 : decode cX3_beginAlarms 36 = .ok (.iinc 3 1, 3) := by decide +kernel
theorem dX3_beginAlarms_39 : decode cX3_beginAlarms 39 = .ok (.aload_n 0, 1) := by decide +kernel
theorem dX3_beginAlarms_40 : decode cX3_beginAlarms 40 = .ok (.getfield 10, 3) := by decide +kernel
theorem dX3_beginAlarms_43 : decode cX3_beginAlarms 43 = .ok (.iload_n 2, 1) := by decide +kernel
theorem dX3_beginAlarms_44 : decode cX3_beginAlarms 44 = .ok (.invokevirtual 127, 3) := by decide +kernel
theorem dX3_beginAlarms_47 : decode cX3_beginAlarms 47 = .ok (.dconst 0, 1) := by decide +kernel
theorem dX3_beginAlarms_48 : decode cX3_beginAlarms 48 = .ok (.dcmp .g, 1) := by decide +kernel
theorem dX3_beginAlarms_49 : decode cX3_beginAlarms 49 = .ok (.ifCond .gt 22, 3) := by decide +kernel
theorem dX3_beginAlarms_52 : decode cX3_beginAlarms 52 = .ok (.aload_n 0, 1) := by decide +kernel
theorem dX3_beginAlarms_53 : decode cX3_beginAlarms 53 = .ok (.getfield 26, 3) := by decide +kernel
theorem dX3_beginAlarms_56 : decode cX3_beginAlarms 56 = .ok (.iload_n 1, 1) := by decide +kernel
theorem dX3_beginAlarms_57 : decode cX3_beginAlarms 57 = .ok (.iconst 1, 1) := by decide +kernel
theorem dX3_beginAlarms_58 : decode cX3_beginAlarms 58 = .ok (.aload_n 0, 1) := by decide +kernel
theorem dX3_beginAlarms_59 : decode cX3_beginAlarms 59 = .ok (.getfield 30, 3) := by decide +kernel
theorem dX3_beginAlarms_62 : decode cX3_beginAlarms 62 = .ok (.invokevirtual 166, 3) := by decide +kernel
theorem dX3_beginAlarms_65 : decode cX3_beginAlarms 65 = .ok (.ifCond .eq 6, 3) := by decide +kernel
theorem dX3_beginAlarms_68 : decode cX3_beginAlarms 68 = .ok (.iinc 3 1, 3) := by decide +kernel
theorem dX3_beginAlarms_71 : decode cX3_beginAlarms 71 = .ok (.iload_n 3, 1) := by decide +kernel
theorem dX3_beginAlarms_72 : decode cX3_beginAlarms 72 = .ok (.ireturn, 1) := by decide +kernel
end
section
theorem dX4_init_0 : decode cX4_init 0 = .ok (.aload_n 0, 1) := by decide +kernel
theorem dX4_init_1 : decode cX4_init 1 = .ok (.invokespecial 1, 3) := by decide +kernel
theorem dX4_init_4 : decode cX4_init 4 = .ok (.aload_n 0, 1) := by decide +kernel
theorem dX4_init_5 : decode cX4_init 5 = .ok (.bipush 40, 2) := by decide +kernel
theorem dX4_init_7 : decode cX4_init 7 = .ok (.newarray .int, 2) := by decide +kernel
theorem dX4_init_9 : decode cX4_init 9 = .ok (.putfield 7, 3) := by decide +kernel
theorem dX4_init_12 : decode cX4_init 12 = .ok (.aload_n 0, 1) := by decide +kernel
theorem dX4_init_13 : decode cX4_init 13 = .ok (.bipush 40, 2) := by decide +kernel
theorem dX4_init_15 : decode cX4_init 15 = .ok (.newarray .int, 2) := by decide +kernel
theorem dX4_init_17 : decode cX4_init 17 = .ok (.putfield 13, 3) := by decide +kernel
theorem dX4_init_20 : decode cX4_init 20 = .ok (.aload_n 0, 1) := by decide +kernel
theorem dX4_init_21 : decode cX4_init 21 = .ok (.bipush 40, 2) := by decide +kernel
theorem dX4_init_23 : decode cX4_init 23 = .ok (.newarray .int, 2) := by decide +kernel
theorem dX4_init_25 : decode cX4_init 25 = .ok (.putfield 16, 3) := by decide +kernel
theorem dX4_init_28 : decode cX4_init 28 = .ok (.aload_n 0, 1) := by decide +kernel
theorem dX4_init_29 : decode cX4_init 29 = .ok (.bipush 40, 2) := by decide +kernel
theorem dX4_init_31 : decode cX4_init 31 = .ok (.newarray .boolean, 2) := by decide +kernel
theorem dX4_init_33 : decode cX4_init 33 = .ok (.putfield 19, 3) := by decide +kernel
theorem dX4_init_36 : decode cX4_init 36 = .ok (.aload_n 0, 1) := by decide +kernel
theorem dX4_init_37 : decode cX4_init 37 = .ok (.bipush 40, 2) := by decide +kernel
theorem dX4_init_39 : decode cX4_init 39 = .ok (.newarray .double, 2) := by decide +kernel
theorem dX4_init_41 : decode cX4_init 41 = .ok (.putfield 23, 3) := by decide +kernel
theorem dX4_init_44 : decode cX4_init 44 = .ok (.aload_n 0, 1) := by decide +kernel
theorem dX4_init_45 : decode cX4_init 45 = .ok (.bipush 40, 2) := by decide +kernel
theorem dX4_init_47 : decode cX4_init 47 = .ok (.newarray .double, 2) := by decide +kernel
theorem dX4_init_49 : decode cX4_init 49 = .ok (.putfield 27, 3) := by decide +kernel
theorem dX4_init_52 : decode cX4_init 52 = .ok (.aload_n 0, 1) := by decide +kernel
theorem dX4_init_53 : decode cX4_init 53 = .ok (.bipush 30, 2) := by decide +kernel
theorem dX4_init_55 : decode cX4_init 55 = .ok (.newarray .int, 2) := by decide +kernel
theorem dX4_init_57 : decode cX4_init 57 = .ok (.putfield 30, 3) := by decide +kernel
theorem dX4_init_60 : decode cX4_init 60 = .ok (.aload_n 0, 1) := by decide +kernel
theorem dX4_init_61 : decode cX4_init 61 = .ok (.bipush 30, 2) := by decide +kernel
theorem dX4_init_63 : decode cX4_init 63 = .ok (.newarray .int, 2) := by decide +kernel
theorem dX4_init_65 : decode cX4_init 65 = .ok (.putfield 33, 3) := by decide +kernel
theorem dX4_init_68 : decode cX4_init 68 = .ok (.aload_n 0, 1) := by decide +kernel
theorem dX4_init_69 : decode cX4_init 69 = .ok (.bipush 30, 2) := by decide +kernel
theorem dX4_init_71 : decode cX4_init 71 = .ok (.newarray .int, 2) := by decide +kernel
theorem dX4_init_73 : decode cX4_init 73 = .ok (.putfield 36, 3) := by decide +kernel
theorem dX4_init_76 : decode cX4_init 76 = .ok (.aload_n 0, 1) := by decide +kernel
theorem dX4_init_77 : decode cX4_init 77 = .ok (.bipush 30, 2) := by decide +kernel
theorem dX4_init_79 : decode cX4_init 79 = .ok (.newarray .int, 2) := by decide +kernel
theorem dX4_init_81 : decode cX4_init 81 = .ok (.putfield 39, 3) := by decide +kernel
theorem dX4_init_84 : decode cX4_init 84 = .ok (.aload_n 0, 1) := by decide +kernel
theorem dX4_init_85 : decode cX4_init 85 = .ok (.bipush 60, 2) := by decide +kernel
theorem dX4_init_87 : decode cX4_init 87 = .ok (.newarray .int, 2) := by decide +kernel
theorem dX4_init_89 : decode cX4_init 89 = .ok (.putfield 42, 3) := by decide +kernel
theorem dX4_init_92 : decode cX4_init 92 = .ok (.return_, 1) := by decide +kernel
theorem dX4_thrown_0 : decode cX4_thrown 0 = .ok (.aload_n 0, 1) := by decide +kernel
theorem dX4_thrown_1 : decode cX4_thrown 1 = .ok (.getfield 45, 3) := by decide +kernel
theorem dX4_thrown_4 : decode cX4_thrown 4 = .ok (.ireturn, 1) := by decide +kernel
theorem dX4_in_0 : decode cX4_in 0 = .ok (.iload_n 0, 1) := by decide +kernel
theorem dX4_in_1 : decode cX4_in 1 = .ok (.iload_n 1, 1) := by decide +kernel
theorem dX4_in_2 : decode cX4_in 2 = .ok (.if_icmp .lt 12, 3) := by decide +kernel
theorem dX4_in_5 : decode cX4_in 5 = .ok (.iload_n 0, 1) := by decide +kernel
theorem dX4_in_6 : decode cX4_in 6 = .ok (.iload_n 2, 1) := by decide +kernel
theorem dX4_in_7 : decode cX4_in 7 = .ok (.if_icmp .gt 7, 3) := by decide +kernel
theorem dX4_in_10 : decode cX4_in 10 = .ok (.iconst 1, 1) := by decide +kernel
theorem dX4_in_11 : decode cX4_in 11 = .ok (.goto 4, 3) := by decide +kernel
theorem dX4_in_14 : decode cX4_in 14 = .ok (.iconst 0, 1) := by decide +kernel
theorem dX4_in_15 : decode cX4_in 15 = .ok (.ireturn, 1) := by decide +kernel
set_option maxRecDepth 20000 in
theorem ggX4_isLamp_X4_in : GoodIn wsX4_isLamp wsX4_in := goodIn_r _ [5] (by decide +kernel) (by decide +kernel)
set_option maxRecDepth 20000 in
theorem gX4_isLamp_X4_in : GoodIn wsX4_isLamp (va_wsS RX4 52 yX4_in wsX4_in) := goodIn_app (goodIn_of _ (by decide +kernel)) ggX4_isLamp_X4_in
theorem dX4_isLamp_0 : decode cX4_isLamp 0 = .ok (.iload_n 1, 1) := by decide +kernel
theorem dX4_isLamp_1 : decode cX4_isLamp 1 = .ok (.iconst 0, 1) := by decide +kernel
theorem dX4_isLamp_2 : decode cX4_isLamp 2 = .ok (.aload_n 0, 1) := by decide +kernel
theorem dX4_isLamp_3 : decode cX4_isLamp 3 = .ok (.getfield 49, 3) := by decide +kernel
theorem dX4_isLamp_6 : decode cX4_isLamp 6 = .ok (.iconst 1, 1) := by decide +kernel
theorem dX4_isLamp_7 : decode cX4_isLamp 7 = .ok (.isub, 1) := by decide +kernel
theorem dX4_isLamp_8 : decode cX4_isLamp 8 = .ok (.invokestatic 52, 3) := by decide +kernel
theorem dX4_isLamp_11 : decode cX4_isLamp 11 = .ok (.ireturn, 1) := by decide +kernel
set_option maxRecDepth 20000 in
theorem ggX4_isMiner_X4_in : GoodIn wsX4_isMiner wsX4_in := goodIn_r _ [5] (by decide +kernel) (by decide +kernel)
set_option maxRecDepth 20000 in
theorem gX4_isMiner_X4_in : GoodIn wsX4_isMiner (va_wsS RX4 52 yX4_in wsX4_in) := goodIn_app (goodIn_of _ (by decide +kernel)) ggX4_isMiner_X4_in
theorem dX4_isMiner_0 : decode cX4_isMiner 0 = .ok (.iload_n 1, 1) := by decide +kernel
theorem dX4_isMiner_1 : decode cX4_isMiner 1 = .ok (.iconst 0, 1) := by decide +kernel
theorem dX4_isMiner_2 : decode cX4_isMiner 2 = .ok (.aload_n 0, 1) := by decide +kernel
theorem dX4_isMiner_3 : decode cX4_isMiner 3 = .ok (.getfield 56, 3) := by decide +kernel
theorem dX4_isMiner_6 : decode cX4_isMiner 6 = .ok (.iconst 1, 1) := by decide +kernel
theorem dX4_isMiner_7 : decode cX4_isMiner 7 = .ok (.isub, 1) := by decide +kernel
theorem dX4_isMiner_8 : decode cX4_isMiner 8 = .ok (.invokestatic 52, 3) := by decide +kernel
theorem dX4_isMiner_11 : decode cX4_isMiner 11 = .ok (.ireturn, 1) := by decide +kernel
theorem dX4_full_0 : decode cX4_full 0 = .ok (.iload_n 0, 1) := by decide +kernel
theorem dX4_full_1 : decode cX4_full 1 = .ok (.ifCond .ne 9, 3) := by decide +kernel
theorem dX4_full_4 : decode cX4_full 4 = .ok (.ldc2_w 59, 3) := by decide +kernel
theorem dX4_full_7 : decode cX4_full 7 = .ok (.goto 17, 3) := by decide +kernel
theorem dX4_full_10 : decode cX4_full 10 = .ok (.iload_n 0, 1) := by decide +kernel
theorem dX4_full_11 : decode cX4_full 11 = .ok (.iconst 1, 1) := by decide +kernel
theorem dX4_full_12 : decode cX4_full 12 = .ok (.if_icmp .ne 9, 3) := by decide +kernel
theorem dX4_full_15 : decode cX4_full 15 = .ok (.ldc2_w 61, 3) := by decide +kernel
theorem dX4_full_18 : decode cX4_full 18 = .ok (.goto 6, 3) := by decide +kernel
theorem dX4_full_21 : decode cX4_full 21 = .ok (.ldc2_w 63, 3) := by decide +kernel
theorem dX4_full_24 : decode cX4_full 24 = .ok (.dreturn, 1) := by decide +kernel
set_option maxRecDepth 20000 in
theorem ggX4_addLamp_X4_in : GoodIn wsX4_addLamp wsX4_in := goodIn_r _ [10] (by decide +kernel) (by decide +kernel)
set_option maxRecDepth 20000 in
theorem gX4_addLamp_X4_in : GoodIn wsX4_addLamp (va_wsS RX4 52 yX4_in wsX4_in) := goodIn_app (goodIn_of _ (by decide +kernel)) ggX4_addLamp_X4_in
set_option maxRecDepth 20000 in
theorem ggX4_addLamp_X4_full : GoodIn wsX4_addLamp wsX4_full := goodIn_r _ [13, 14, 15, 16] (by decide +kernel) (by decide +kernel)
set_option maxRecDepth 20000 in
theorem gX4_addLamp_X4_full : GoodIn wsX4_addLamp (va_wsS RX4 65 yX4_full wsX4_full) := goodIn_app (goodIn_of _ (by decide +kernel)) ggX4_addLamp_X4_full
theorem dX4_addLamp_0 : decode cX4_addLamp 0 = .ok (.aload_n 0, 1) := by decide +kernel
theorem dX4_addLamp_1 : decode cX4_addLamp 1 = .ok (.iload_n 1, 1) := by decide +kernel
theorem dX4_addLamp_2 : decode cX4_addLamp 2 = .ok (.iconst 0, 1) := by decide +kernel
theorem dX4_addLamp_3 : decode cX4_addLamp 3 = .ok (.iconst 2, 1) := by decide +kernel
theorem dX4_addLamp_4 : decode cX4_addLamp 4 = .ok (.invokestatic 52, 3) := by decide +kernel
theorem dX4_addLamp_7 : decode cX4_addLamp 7 = .ok (.ifCond .ne 7, 3) := by decide +kernel
theorem dX4_addLamp_10 : decode cX4_addLamp 10 = .ok (.iconst 1, 1) := by decide +kernel
theorem dX4_addLamp_11 : decode cX4_addLamp 11 = .ok (.goto 17, 3) := by decide +kernel
theorem dX4_addLamp_14 : decode cX4_addLamp 14 = .ok (.aload_n 0, 1) := by decide +kernel
theorem dX4_addLamp_15 : decode cX4_addLamp 15 = .ok (.getfield 49, 3) := by decide +kernel
theorem dX4_addLamp_18 : decode cX4_addLamp 18 = .ok (.bipush 40, 2) := by decide +kernel
theorem dX4_addLamp_20 : decode cX4_addLamp 20 = .ok (.if_icmp .ne 7, 3) := by decide +kernel
theorem dX4_addLamp_23 : decode cX4_addLamp 23 = .ok (.iconst 2, 1) := by decide +kernel
theorem dX4_addLamp_24 : decode cX4_addLamp 24 = .ok (.goto 4, 3) := by decide +kernel
theorem dX4_addLamp_27 : decode cX4_addLamp 27 = .ok (.iconst 0, 1) := by decide +kernel
theorem dX4_addLamp_28 : decode cX4_addLamp 28 = .ok (.putfield 45, 3) := by decide +kernel
theorem dX4_addLamp_31 : decode cX4_addLamp 31 = .ok (.aload_n 0, 1) := by decide +kernel
theorem dX4_addLamp_32 : decode cX4_addLamp 32 = .ok (.getfield 45, 3) := by decide +kernel
theorem dX4_addLamp_35 : decode cX4_addLamp 35 = .ok (.ifCond .le 5, 3) := by decide +kernel
theorem dX4_addLamp_38 : decode cX4_addLamp 38 = .ok (.iconst 0, 1) := by decide +kernel
theorem dX4_addLamp_39 : decode cX4_addLamp 39 = .ok (.ireturn, 1) := by decide +kernel
theorem dX4_addLamp_40 : decode cX4_addLamp 40 = .ok (.aload_n 0, 1) := by decide +kernel
theorem dX4_addLamp_41 : decode cX4_addLamp 41 = .ok (.getfield 7, 3) := by decide +kernel
theorem dX4_addLamp_44 : decode cX4_addLamp 44 = .ok (.aload_n 0, 1) := by decide +kernel
theorem dX4_addLamp_45 : decode cX4_addLamp 45 = .ok (.getfield 49, 3) := by decide +kernel
theorem dX4_addLamp_48 : decode cX4_addLamp 48 = .ok (.iload_n 1, 1) := by decide +kernel
theorem dX4_addLamp_49 : decode cX4_addLamp 49 = .ok (.iastore, 1) := by decide +kernel
theorem dX4_addLamp_50 : decode cX4_addLamp 50 = .ok (.aload_n 0, 1) := by decide +kernel
theorem dX4_addLamp_51 : decode cX4_addLamp 51 = .ok (.getfield 13, 3) := by decide +kernel
theorem dX4_addLamp_54 : decode cX4_addLamp 54 = .ok (.aload_n 0, 1) := by decide +kernel
theorem dX4_addLamp_55 : decode cX4_addLamp 55 = .ok (.getfield 49, 3) := by decide +kernel
theorem dX4_addLamp_58 : decode cX4_addLamp 58 = .ok (.iconst 0, 1) := by decide +kernel
theorem dX4_addLamp_59 : decode cX4_addLamp 59 = .ok (.iastore, 1) := by decide +kernel
theorem dX4_addLamp_60 : decode cX4_addLamp 60 = .ok (.aload_n 0, 1) := by decide +kernel
theorem dX4_addLamp_61 : decode cX4_addLamp 61 = .ok (.getfield 23, 3) := by decide +kernel
theorem dX4_addLamp_64 : decode cX4_addLamp 64 = .ok (.aload_n 0, 1) := by decide +kernel
theorem dX4_addLamp_65 : decode cX4_addLamp 65 = .ok (.getfield 49, 3) := by decide +kernel
theorem dX4_addLamp_68 : decode cX4_addLamp 68 = .ok (.iload_n 1, 1) := by decide +kernel
theorem dX4_addLamp_69 : decode cX4_addLamp 69 = .ok (.invokestatic 65, 3) := by decide +kernel
theorem dX4_addLamp_72 : decode cX4_addLamp 72 = .ok (.dastore, 1) := by decide +kernel
theorem dX4_addLamp_73 : decode cX4_addLamp 73 = .ok (.aload_n 0, 1) := by decide +kernel
theorem dX4_addLamp_74 : decode cX4_addLamp 74 = .ok (.getfield 27, 3) := by decide +kernel
theorem dX4_addLamp_77 : decode cX4_addLamp 77 = .ok (.aload_n 0, 1) := by decide +kernel
theorem dX4_addLamp_78 : decode cX4_addLamp 78 = .ok (.getfield 49, 3) := by decide +kernel
theorem dX4_addLamp_81 : decode cX4_addLamp 81 = .ok (.iload_n 1, 1) := by decide +kernel
theorem dX4_addLamp_82 : decode cX4_addLamp 82 = .ok (.invokestatic 65, 3) := by decide +kernel
theorem dX4_addLamp_85 : decode cX4_addLamp 85 = .ok (.dastore, 1) := by decide +kernel
theorem dX4_addLamp_86 : decode cX4_addLamp 86 = .ok (.aload_n 0, 1) := by decide +kernel
theorem dX4_addLamp_87 : decode cX4_addLamp 87 = .ok (.dup, 1) := by decide +kernel
theorem dX4_addLamp_88 : decode cX4_addLamp 88 = .ok (.getfield 49, 3) := by decide +kernel
theorem dX4_addLamp_91 : decode cX4_addLamp 91 = .ok (.iconst 1, 1) := by decide +kernel
theorem dX4_addLamp_92 : decode cX4_addLamp 92 = .ok (.iadd, 1) := by decide +kernel
theorem dX4_addLamp_93 : decode cX4_addLamp 93 = .ok (.putfield 49, 3) := by decide +kernel
theorem dX4_addLamp_96 : decode cX4_addLamp 96 = .ok (.aload_n 0, 1) := by decide +kernel
theorem dX4_addLamp_97 : decode cX4_addLamp 97 = .ok (.getfield 49, 3) := by decide +kernel
theorem dX4_addLamp_100 : decode cX4_addLamp 100 = .ok (.iconst 1, 1) := by decide +kernel
theorem dX4_addLamp_101 : decode cX4_addLamp 101 = .ok (.isub, 1) := by decide +kernel
theorem dX4_addLamp_102 : decode cX4_addLamp 102 = .ok (.ireturn, 1) := by decide +kernel
set_option maxRecDepth 20000 in
theorem ggX4_addMiner_X4_in : GoodIn wsX4_addMiner wsX4_in := goodIn_r _ [8] (by decide +kernel) (by decide +kernel)
set_option maxRecDepth 20000 in
theorem gX4_addMiner_X4_in : GoodIn wsX4_addMiner (va_wsS RX4 52 yX4_in wsX4_in) := goodIn_app (goodIn_of _ (by decide +kernel)) ggX4_addMiner_X4_in
theorem dX4_addMiner_0 : decode cX4_addMiner 0 = .ok (.aload_n 0, 1) := by decide +kernel
theorem dX4_addMiner_1 : decode cX4_addMiner 1 = .ok (.iload_n 1, 1) := by decide +kernel
theorem dX4_addMiner_2 : decode cX4_addMiner 2 = .ok (.iconst 0, 1) := by decide +kernel
theorem dX4_addMiner_3 : decode cX4_addMiner 3 = .ok (.iconst 2, 1) := by decide +kernel
theorem dX4_addMiner_4 : decode cX4_addMiner 4 = .ok (.invokestatic 52, 3) := by decide +kernel
theorem dX4_addMiner_7 : decode cX4_addMiner 7 = .ok (.ifCond .ne 7, 3) := by decide +kernel
theorem dX4_addMiner_10 : decode cX4_addMiner 10 = .ok (.iconst 1, 1) := by decide +kernel
theorem dX4_addMiner_11 : decode cX4_addMiner 11 = .ok (.goto 17, 3) := by decide +kernel
theorem dX4_addMiner_14 : decode cX4_addMiner 14 = .ok (.aload_n 0, 1) := by decide +kernel
theorem dX4_addMiner_15 : decode cX4_addMiner 15 = .ok (.getfield 56, 3) := by decide +kernel
theorem dX4_addMiner_18 : decode cX4_addMiner 18 = .ok (.bipush 30, 2) := by decide +kernel
theorem dX4_addMiner_20 : decode cX4_addMiner 20 = .ok (.if_icmp .ne 7, 3) := by decide +kernel
theorem dX4_addMiner_23 : decode cX4_addMiner 23 = .ok (.iconst 2, 1) := by decide +kernel
theorem dX4_addMiner_24 : decode cX4_addMiner 24 = .ok (.goto 4, 3) := by decide +kernel
theorem dX4_addMiner_27 : decode cX4_addMiner 27 = .ok (.iconst 0, 1) := by decide +kernel
theorem dX4_addMiner_28 : decode cX4_addMiner 28 = .ok (.putfield 45, 3) := by decide +kernel
theorem dX4_addMiner_31 : decode cX4_addMiner 31 = .ok (.aload_n 0, 1) := by decide +kernel
theorem dX4_addMiner_32 : decode cX4_addMiner 32 = .ok (.getfield 45, 3) := by decide +kernel
theorem dX4_addMiner_35 : decode cX4_addMiner 35 = .ok (.ifCond .le 5, 3) := by decide +kernel
theorem dX4_addMiner_38 : decode cX4_addMiner 38 = .ok (.iconst 0, 1) := by decide +kernel
theorem dX4_addMiner_39 : decode cX4_addMiner 39 = .ok (.ireturn, 1) := by decide +kernel
theorem dX4_addMiner_40 : decode cX4_addMiner 40 = .ok (.aload_n 0, 1) := by decide +kernel
theorem dX4_addMiner_41 : decode cX4_addMiner 41 = .ok (.getfield 30, 3) := by decide +kernel
theorem dX4_addMiner_44 : decode cX4_addMiner 44 = .ok (.aload_n 0, 1) := by decide +kernel
theorem dX4_addMiner_45 : decode cX4_addMiner 45 = .ok (.getfield 56, 3) := by decide +kernel
theorem dX4_addMiner_48 : decode cX4_addMiner 48 = .ok (.iload_n 1, 1) := by decide +kernel
theorem dX4_addMiner_49 : decode cX4_addMiner 49 = .ok (.iastore, 1) := by decide +kernel
theorem dX4_addMiner_50 : decode cX4_addMiner 50 = .ok (.aload_n 0, 1) := by decide +kernel
theorem dX4_addMiner_51 : decode cX4_addMiner 51 = .ok (.getfield 33, 3) := by decide +kernel
theorem dX4_addMiner_54 : decode cX4_addMiner 54 = .ok (.aload_n 0, 1) := by decide +kernel
theorem dX4_addMiner_55 : decode cX4_addMiner 55 = .ok (.getfield 56, 3) := by decide +kernel
theorem dX4_addMiner_58 : decode cX4_addMiner 58 = .ok (.iconst (-1), 1) := by decide +kernel
theorem dX4_addMiner_59 : decode cX4_addMiner 59 = .ok (.iastore, 1) := by decide +kernel
theorem dX4_addMiner_60 : decode cX4_addMiner 60 = .ok (.aload_n 0, 1) := by decide +kernel
theorem dX4_addMiner_61 : decode cX4_addMiner 61 = .ok (.dup, 1) := by decide +kernel
theorem dX4_addMiner_62 : decode cX4_addMiner 62 = .ok (.getfield 56, 3) := by decide +kernel
theorem dX4_addMiner_65 : decode cX4_addMiner 65 = .ok (.iconst 1, 1) := by decide +kernel
theorem dX4_addMiner_66 : decode cX4_addMiner 66 = .ok (.iadd, 1) := by decide +kernel
theorem dX4_addMiner_67 : decode cX4_addMiner 67 = .ok (.putfield 56, 3) := by decide +kernel
theorem dX4_addMiner_70 : decode cX4_addMiner 70 = .ok (.aload_n 0, 1) := by decide +kernel
theorem dX4_addMiner_71 : decode cX4_addMiner 71 = .ok (.getfield 56, 3) := by decide +kernel
theorem dX4_addMiner_74 : decode cX4_addMiner 74 = .ok (.iconst 1, 1) := by decide +kernel
theorem dX4_addMiner_75 : decode cX4_addMiner 75 = .ok (.isub, 1) := by decide +kernel
theorem dX4_addMiner_76 : decode cX4_addMiner 76 = .ok (.ireturn, 1) := by decide +kernel
theorem dX4_isReady_0 : decode cX4_isReady 0 = .ok (.aload_n 0, 1) := by decide +kernel
theorem dX4_isReady_1 : decode cX4_isReady 1 = .ok (.getfield 13, 3) := by decide +kernel
theorem dX4_isReady_4 : decode cX4_isReady 4 = .ok (.iload_n 1, 1) := by decide +kernel
theorem dX4_isReady_5 : decode cX4_isReady 5 = .ok (.iaload, 1) := by decide +kernel
theorem dX4_isReady_6 : decode cX4_isReady 6 = .ok (.ifCond .ne 20, 3) := by decide +kernel
theorem dX4_isReady_9 : decode cX4_isReady 9 = .ok (.aload_n 0, 1) := by decide +kernel
theorem dX4_isReady_10 : decode cX4_isReady 10 = .ok (.getfield 23, 3) := by decide +kernel
theorem dX4_isReady_13 : decode cX4_isReady 13 = .ok (.iload_n 1, 1) := by decide +kernel
theorem dX4_isReady_14 : decode cX4_isReady 14 = .ok (.daload, 1) := by decide +kernel
theorem dX4_isReady_15 : decode cX4_isReady 15 = .ok (.ldc2_w 69, 3) := by decide +kernel
theorem dX4_isReady_18 : decode cX4_isReady 18 = .ok (.dcmp .l, 1) := by decide +kernel
theorem dX4_isReady_19 : decode cX4_isReady 19 = .ok (.ifCond .lt 7, 3) := by decide +kernel
theorem dX4_isReady_22 : decode cX4_isReady 22 = .ok (.iconst 1, 1) := by decide +kernel
theorem dX4_isReady_23 : decode cX4_isReady 23 = .ok (.goto 4, 3) := by decide +kernel
theorem dX4_isReady_26 : decode cX4_isReady 26 = .ok (.iconst 0, 1) := by decide +kernel
theorem dX4_isReady_27 : decode cX4_isReady 27 = .ok (.ireturn, 1) := by decide +kernel
set_option maxRecDepth 20000 in
theorem ggX4_lampFor_X4_isReady : GoodIn wsX4_lampFor wsX4_isReady := goodIn_r _ [8, 9, 3, 10, 11, 12, 13, 14, 15, 16, 17, 18, 19, 20, 21, 22, 23, 24, 25, 26, 27] (by decide +kernel) (by decide +kernel)
set_option maxRecDepth 20000 in
theorem gX4_lampFor_X4_isReady : GoodIn wsX4_lampFor (wsV RX4 71 RX4 yX4_isReady wsX4_isReady) := goodIn_app (goodIn_of _ (by decide +kernel)) ggX4_lampFor_X4_isReady
theorem dX4_lampFor_0 : decode cX4_lampFor 0 = .ok (.iconst (-1), 1) := by decide +kernel
theorem dX4_lampFor_1 : decode cX4_lampFor 1 = .ok (.istore_n 2, 1) := by decide +kernel
theorem dX4_lampFor_2 : decode cX4_lampFor 2 = .ok (.iload_n 1, 1) := by decide +kernel
theorem dX4_lampFor_3 : decode cX4_lampFor 3 = .ok (.istore_n 3, 1) := by decide +kernel
theorem dX4_lampFor_4 : decode cX4_lampFor 4 = .ok (.iload_n 3, 1) := by decide +kernel
theorem dX4_lampFor_5 : decode cX4_lampFor 5 = .ok (.iconst 3, 1) := by decide +kernel
theorem dX4_lampFor_6 : decode cX4_lampFor 6 = .ok (.if_icmp .ge 93, 3) := by decide +kernel
theorem dX4_lampFor_9 : decode cX4_lampFor 9 = .ok (.iload_n 2, 1) := by decide +kernel
theorem dX4_lampFor_10 : decode cX4_lampFor 10 = .ok (.iconst (-1), 1) := by decide +kernel
theorem dX4_lampFor_11 : decode cX4_lampFor 11 = .ok (.if_icmp .ne 88, 3) := by decide +kernel
theorem dX4_lampFor_14 : decode cX4_lampFor 14 = .ok (.iconst 0, 1) := by decide +kernel
theorem dX4_lampFor_15 : decode cX4_lampFor 15 = .ok (.istore 4, 2) := by decide +kernel
theorem dX4_lampFor_17 : decode cX4_lampFor 17 = .ok (.iload 4, 2) := by decide +kernel
theorem dX4_lampFor_19 : decode cX4_lampFor 19 = .ok (.aload_n 0, 1) := by decide +kernel
theorem dX4_lampFor_20 : decode cX4_lampFor 20 = .ok (.getfield 49, 3) := by decide +kernel
theorem dX4_lampFor_23 : decode cX4_lampFor 23 = .ok (.if_icmp .ge 70, 3) := by decide +kernel
theorem dX4_lampFor_26 : decode cX4_lampFor 26 = .ok (.aload_n 0, 1) := by decide +kernel
theorem dX4_lampFor_27 : decode cX4_lampFor 27 = .ok (.getfield 7, 3) := by decide +kernel
theorem dX4_lampFor_30 : decode cX4_lampFor 30 = .ok (.iload 4, 2) := by decide +kernel
theorem dX4_lampFor_32 : decode cX4_lampFor 32 = .ok (.iaload, 1) := by decide +kernel
theorem dX4_lampFor_33 : decode cX4_lampFor 33 = .ok (.iload_n 3, 1) := by decide +kernel
theorem dX4_lampFor_34 : decode cX4_lampFor 34 = .ok (.if_icmp .ne 38, 3) := by decide +kernel
theorem dX4_lampFor_37 : decode cX4_lampFor 37 = .ok (.aload_n 0, 1) := by decide +kernel
theorem dX4_lampFor_38 : decode cX4_lampFor 38 = .ok (.iload 4, 2) := by decide +kernel
theorem dX4_lampFor_40 : decode cX4_lampFor 40 = .ok (.invokevirtual 71, 3) := by decide +kernel
theorem dX4_lampFor_43 : decode cX4_lampFor 43 = .ok (.ifCond .eq 29, 3) := by decide +kernel
theorem dX4_lampFor_46 : decode cX4_lampFor 46 = .ok (.iload_n 2, 1) := by decide +kernel
theorem dX4_lampFor_47 : decode cX4_lampFor 47 = .ok (.iconst (-1), 1) := by decide +kernel
theorem dX4_lampFor_48 : decode cX4_lampFor 48 = .ok (.if_icmp .eq 20, 3) := by decide +kernel
theorem dX4_lampFor_51 : decode cX4_lampFor 51 = .ok (.aload_n 0, 1) := by decide +kernel
theorem dX4_lampFor_52 : decode cX4_lampFor 52 = .ok (.getfield 23, 3) := by decide +kernel
theorem dX4_lampFor_55 : decode cX4_lampFor 55 = .ok (.iload 4, 2) := by decide +kernel
theorem dX4_lampFor_57 : decode cX4_lampFor 57 = .ok (.daload, 1) := by decide +kernel
theorem dX4_lampFor_58 : decode cX4_lampFor 58 = .ok (.aload_n 0, 1) := by decide +kernel
theorem dX4_lampFor_59 : decode cX4_lampFor 59 = .ok (.getfield 23, 3) := by decide +kernel
theorem dX4_lampFor_62 : decode cX4_lampFor 62 = .ok (.iload_n 2, 1) := by decide +kernel
theorem dX4_lampFor_63 : decode cX4_lampFor 63 = .ok (.daload, 1) := by decide +kernel
theorem dX4_lampFor_64 : decode cX4_lampFor 64 = .ok (.dcmp .l, 1) := by decide +kernel
theorem dX4_lampFor_65 : decode cX4_lampFor 65 = .ok (.ifCond .le 7, 3) := by decide +kernel
theorem dX4_lampFor_68 : decode cX4_lampFor 68 = .ok (.iconst 1, 1) := by decide +kernel
theorem dX4_lampFor_69 : decode cX4_lampFor 69 = .ok (.goto 4, 3) := by decide +kernel
theorem dX4_lampFor_72 : decode cX4_lampFor 72 = .ok (.iconst 0, 1) := by decide +kernel
theorem dX4_lampFor_73 : decode cX4_lampFor 73 = .ok (.istore 5, 2) := by decide +kernel
theorem dX4_lampFor_75 : decode cX4_lampFor 75 = .ok (.iload 5, 2) := by decide +kernel
theorem dX4_lampFor_77 : decode cX4_lampFor 77 = .ok (.ifCond .eq 8, 3) := by decide +kernel
theorem dX4_lampFor_80 : decode cX4_lampFor 80 = .ok (.iload 4, 2) := by decide +kernel
theorem dX4_lampFor_82 : decode cX4_lampFor 82 = .ok (.goto 4, 3) := by decide +kernel
theorem dX4_lampFor_85 : decode cX4_lampFor 85 = .ok (.iload_n 2, 1) := by decide +kernel
theorem dX4_lampFor_86 : decode cX4_lampFor 86 = .ok (.istore_n 2, 1) := by decide +kernel
theorem dX4_lampFor_87 : decode cX4_lampFor 87 = .ok (.iinc 4 1, 3) := by decide +kernel
theorem dX4_lampFor_90 : decode cX4_lampFor 90 = .ok (.goto (-73), 3) := by decide +kernel
theorem dX4_lampFor_93 : decode cX4_lampFor 93 = .ok (.iinc 3 1, 3) := by decide +kernel
theorem dX4_lampFor_96 : decode cX4_lampFor 96 = .ok (.goto (-92), 3) := by decide +kernel
theorem dX4_lampFor_99 : decode cX4_lampFor 99 = .ok (.iload_n 2, 1) := by decide +kernel
theorem dX4_lampFor_100 : decode cX4_lampFor 100 = .ok (.ireturn, 1) := by decide +kernel
set_option maxRecDepth 20000 in
theorem ggX4_issue_X4_isMiner : GoodIn wsX4_issue wsX4_isMiner := goodIn_r _ [13, 14, 15, 16, 12, 17, 30, 31, 32, 33, 34, 35, 36, 37, 38, 39, 40, 41, 42, 43, 44, 45, 46] (by decide +kernel) (by decide +kernel)
set_option maxRecDepth 20000 in
theorem gX4_issue_X4_isMiner : GoodIn wsX4_issue (wsV RX4 75 RX4 yX4_isMiner wsX4_isMiner) := goodIn_app (goodIn_of _ (by decide +kernel)) ggX4_issue_X4_isMiner
set_option maxRecDepth 20000 in
theorem ggX4_issue_X4_lampFor : GoodIn wsX4_issue wsX4_lampFor := goodIn_r _ [21, 22, 23, 24, 25, 26, 27, 12, 28, 4, 29, 30, 31, 32, 33, 34, 35, 36, 37, 38, 39, 40, 41, 42, 43, 44, 45, 46] (by decide +kernel) (by decide +kernel)
set_option maxRecDepth 20000 in
theorem gX4_issue_X4_lampFor : GoodIn wsX4_issue (wsV RX4 78 RX4 yX4_lampFor wsX4_lampFor) := goodIn_app (goodIn_of _ (by decide +kernel)) ggX4_issue_X4_lampFor
theorem dX4_issue_0 : decode cX4_issue 0 = .ok (.aload_n 0, 1) := by decide +kernel
theorem dX4_issue_1 : decode cX4_issue 1 = .ok (.aload_n 0, 1) := by decide +kernel
theorem dX4_issue_2 : decode cX4_issue 2 = .ok (.iload_n 1, 1) := by decide +kernel
theorem dX4_issue_3 : decode cX4_issue 3 = .ok (.invokevirtual 75, 3) := by decide +kernel
theorem dX4_issue_6 : decode cX4_issue 6 = .ok (.ifCond .ne 7, 3) := by decide +kernel
theorem dX4_issue_9 : decode cX4_issue 9 = .ok (.iconst 1, 1) := by decide +kernel
theorem dX4_issue_10 : decode cX4_issue 10 = .ok (.goto 32, 3) := by decide +kernel
theorem dX4_issue_13 : decode cX4_issue 13 = .ok (.aload_n 0, 1) := by decide +kernel
theorem dX4_issue_14 : decode cX4_issue 14 = .ok (.getfield 33, 3) := by decide +kernel
theorem dX4_issue_17 : decode cX4_issue 17 = .ok (.iload_n 1, 1) := by decide +kernel
theorem dX4_issue_18 : decode cX4_issue 18 = .ok (.iaload, 1) := by decide +kernel
theorem dX4_issue_19 : decode cX4_issue 19 = .ok (.iconst (-1), 1) := by decide +kernel
theorem dX4_issue_20 : decode cX4_issue 20 = .ok (.if_icmp .ne 17, 3) := by decide +kernel
theorem dX4_issue_23 : decode cX4_issue 23 = .ok (.aload_n 0, 1) := by decide +kernel
theorem dX4_issue_24 : decode cX4_issue 24 = .ok (.aload_n 0, 1) := by decide +kernel
theorem dX4_issue_25 : decode cX4_issue 25 = .ok (.getfield 30, 3) := by decide +kernel
theorem dX4_issue_28 : decode cX4_issue 28 = .ok (.iload_n 1, 1) := by decide +kernel
theorem dX4_issue_29 : decode cX4_issue 29 = .ok (.iaload, 1) := by decide +kernel
theorem dX4_issue_30 : decode cX4_issue 30 = .ok (.invokevirtual 78, 3) := by decide +kernel
theorem dX4_issue_33 : decode cX4_issue 33 = .ok (.iconst (-1), 1) := by decide +kernel
theorem dX4_issue_34 : decode cX4_issue 34 = .ok (.if_icmp .ne 7, 3) := by decide +kernel
theorem dX4_issue_37 : decode cX4_issue 37 = .ok (.iconst 2, 1) := by decide +kernel
theorem dX4_issue_38 : decode cX4_issue 38 = .ok (.goto 4, 3) := by decide +kernel
theorem dX4_issue_41 : decode cX4_issue 41 = .ok (.iconst 0, 1) := by decide +kernel
theorem dX4_issue_42 : decode cX4_issue 42 = .ok (.putfield 45, 3) := by decide +kernel
theorem dX4_issue_45 : decode cX4_issue 45 = .ok (.aload_n 0, 1) := by decide +kernel
theorem dX4_issue_46 : decode cX4_issue 46 = .ok (.getfield 45, 3) := by decide +kernel
theorem dX4_issue_49 : decode cX4_issue 49 = .ok (.ifCond .le 5, 3) := by decide +kernel
theorem dX4_issue_52 : decode cX4_issue 52 = .ok (.iconst 0, 1) := by decide +kernel
theorem dX4_issue_53 : decode cX4_issue 53 = .ok (.ireturn, 1) := by decide +kernel
theorem dX4_issue_54 : decode cX4_issue 54 = .ok (.aload_n 0, 1) := by decide +kernel
theorem dX4_issue_55 : decode cX4_issue 55 = .ok (.aload_n 0, 1) := by decide +kernel
theorem dX4_issue_56 : decode cX4_issue 56 = .ok (.getfield 30, 3) := by decide +kernel
theorem dX4_issue_59 : decode cX4_issue 59 = .ok (.iload_n 1, 1) := by decide +kernel
theorem dX4_issue_60 : decode cX4_issue 60 = .ok (.iaload, 1) := by decide +kernel
theorem dX4_issue_61 : decode cX4_issue 61 = .ok (.invokevirtual 78, 3) := by decide +kernel
theorem dX4_issue_64 : decode cX4_issue 64 = .ok (.istore_n 2, 1) := by decide +kernel
theorem dX4_issue_65 : decode cX4_issue 65 = .ok (.aload_n 0, 1) := by decide +kernel
theorem dX4_issue_66 : decode cX4_issue 66 = .ok (.getfield 13, 3) := by decide +kernel
theorem dX4_issue_69 : decode cX4_issue 69 = .ok (.iload_n 2, 1) := by decide +kernel
theorem dX4_issue_70 : decode cX4_issue 70 = .ok (.iconst 1, 1) := by decide +kernel
theorem dX4_issue_71 : decode cX4_issue 71 = .ok (.iastore, 1) := by decide +kernel
theorem dX4_issue_72 : decode cX4_issue 72 = .ok (.aload_n 0, 1) := by decide +kernel
theorem dX4_issue_73 : decode cX4_issue 73 = .ok (.getfield 33, 3) := by decide +kernel
theorem dX4_issue_76 : decode cX4_issue 76 = .ok (.iload_n 1, 1) := by decide +kernel
theorem dX4_issue_77 : decode cX4_issue 77 = .ok (.iload_n 2, 1) := by decide +kernel
theorem dX4_issue_78 : decode cX4_issue 78 = .ok (.iastore, 1) := by decide +kernel
theorem dX4_issue_79 : decode cX4_issue 79 = .ok (.aload_n 0, 1) := by decide +kernel
theorem dX4_issue_80 : decode cX4_issue 80 = .ok (.getfield 36, 3) := by decide +kernel
theorem dX4_issue_83 : decode cX4_issue 83 = .ok (.iload_n 1, 1) := by decide +kernel
theorem dX4_issue_84 : decode cX4_issue 84 = .ok (.aload_n 0, 1) := by decide +kernel
theorem dX4_issue_85 : decode cX4_issue 85 = .ok (.getfield 82, 3) := by decide +kernel
theorem dX4_issue_88 : decode cX4_issue 88 = .ok (.iastore, 1) := by decide +kernel
theorem dX4_issue_89 : decode cX4_issue 89 = .ok (.aload_n 0, 1) := by decide +kernel
theorem dX4_issue_90 : decode cX4_issue 90 = .ok (.getfield 39, 3) := by decide +kernel
theorem dX4_issue_93 : decode cX4_issue 93 = .ok (.aload_n 0, 1) := by decide +kernel
theorem dX4_issue_94 : decode cX4_issue 94 = .ok (.getfield 85, 3) := by decide +kernel
theorem dX4_issue_97 : decode cX4_issue 97 = .ok (.iload_n 1, 1) := by decide +kernel
theorem dX4_issue_98 : decode cX4_issue 98 = .ok (.iastore, 1) := by decide +kernel
theorem dX4_issue_99 : decode cX4_issue 99 = .ok (.aload_n 0, 1) := by decide +kernel
theorem dX4_issue_100 : decode cX4_issue 100 = .ok (.dup, 1) := by decide +kernel
theorem dX4_issue_101 : decode cX4_issue 101 = .ok (.getfield 85, 3) := by decide +kernel
theorem dX4_issue_104 : decode cX4_issue 104 = .ok (.iconst 1, 1) := by decide +kernel
theorem dX4_issue_105 : decode cX4_issue 105 = .ok (.iadd, 1) := by decide +kernel
theorem dX4_issue_106 : decode cX4_issue 106 = .ok (.putfield 85, 3) := by decide +kernel
theorem dX4_issue_109 : decode cX4_issue 109 = .ok (.iload_n 2, 1) := by decide +kernel
theorem dX4_issue_110 : decode cX4_issue 110 = .ok (.ireturn, 1) := by decide +kernel
theorem dX4_comesOff_0 : decode cX4_comesOff 0 = .ok (.iconst 0, 1) := by decide +kernel
theorem dX4_comesOff_1 : decode cX4_comesOff 1 = .ok (.istore_n 2, 1) := by decide +kernel
theorem dX4_comesOff_2 : decode cX4_comesOff 2 = .ok (.iconst 0, 1) := by decide +kernel
theorem dX4_comesOff_3 : decode cX4_comesOff 3 = .ok (.istore_n 3, 1) := by decide +kernel
theorem dX4_comesOff_4 : decode cX4_comesOff 4 = .ok (.iload_n 3, 1) := by decide +kernel
theorem dX4_comesOff_5 : decode cX4_comesOff 5 = .ok (.aload_n 0, 1) := by decide +kernel
theorem dX4_comesOff_6 : decode cX4_comesOff 6 = .ok (.getfield 85, 3) := by decide +kernel
theorem dX4_comesOff_9 : decode cX4_comesOff 9 = .ok (.if_icmp .ge 39, 3) := by decide +kernel
theorem dX4_comesOff_12 : decode cX4_comesOff 12 = .ok (.aload_n 0, 1) := by decide +kernel
theorem dX4_comesOff_13 : decode cX4_comesOff 13 = .ok (.getfield 39, 3) := by decide +kernel
theorem dX4_comesOff_16 : decode cX4_comesOff 16 = .ok (.iload_n 2, 1) := by decide +kernel
theorem dX4_comesOff_17 : decode cX4_comesOff 17 = .ok (.aload_n 0, 1) := by decide +kernel
theorem dX4_comesOff_18 : decode cX4_comesOff 18 = .ok (.getfield 39, 3) := by decide +kernel
theorem dX4_comesOff_21 : decode cX4_comesOff 21 = .ok (.iload_n 3, 1) := by decide +kernel
theorem dX4_comesOff_22 : decode cX4_comesOff 22 = .ok (.iaload, 1) := by decide +kernel
theorem dX4_comesOff_23 : decode cX4_comesOff 23 = .ok (.iastore, 1) := by decide +kernel
theorem dX4_comesOff_24 : decode cX4_comesOff 24 = .ok (.iload_n 2, 1) := by decide +kernel
theorem dX4_comesOff_25 : decode cX4_comesOff 25 = .ok (.aload_n 0, 1) := by decide +kernel
theorem dX4_comesOff_26 : decode cX4_comesOff 26 = .ok (.getfield 39, 3) := by decide +kernel
theorem dX4_comesOff_29 : decode cX4_comesOff 29 = .ok (.iload_n 3, 1) := by decide +kernel
theorem dX4_comesOff_30 : decode cX4_comesOff 30 = .ok (.iaload, 1) := by decide +kernel
theorem dX4_comesOff_31 : decode cX4_comesOff 31 = .ok (.iload_n 1, 1) := by decide +kernel
theorem dX4_comesOff_32 : decode cX4_comesOff 32 = .ok (.if_icmp .ne 7, 3) := by decide +kernel
theorem dX4_comesOff_35 : decode cX4_comesOff 35 = .ok (.iconst 0, 1) := by decide +kernel
theorem dX4_comesOff_36 : decode cX4_comesOff 36 = .ok (.goto 4, 3) := by decide +kernel
theorem dX4_comesOff_39 : decode cX4_comesOff 39 = .ok (.iconst 1, 1) := by decide +kernel
theorem dX4_comesOff_40 : decode cX4_comesOff 40 = .ok (.iadd, 1) := by decide +kernel
theorem dX4_comesOff_41 : decode cX4_comesOff 41 = .ok (.istore_n 2, 1) := by decide +kernel
theorem dX4_comesOff_42 : decode cX4_comesOff 42 = .ok (.iinc 3 1, 3) := by decide +kernel
theorem dX4_comesOff_45 : decode cX4_comesOff 45 = .ok (.goto (-41), 3) := by decide +kernel
theorem dX4_comesOff_48 : decode cX4_comesOff 48 = .ok (.aload_n 0, 1) := by decide +kernel
theorem dX4_comesOff_49 : decode cX4_comesOff 49 = .ok (.iload_n 2, 1) := by decide +kernel
theorem dX4_comesOff_50 : decode cX4_comesOff 50 = .ok (.putfield 85, 3) := by decide +kernel
theorem dX4_comesOff_53 : decode cX4_comesOff 53 = .ok (.iconst 0, 1) := by decide +kernel
theorem dX4_comesOff_54 : decode cX4_comesOff 54 = .ok (.istore_n 2, 1) := by decide +kernel
theorem dX4_comesOff_55 : decode cX4_comesOff 55 = .ok (.iconst 0, 1) := by decide +kernel
theorem dX4_comesOff_56 : decode cX4_comesOff 56 = .ok (.istore_n 3, 1) := by decide +kernel
theorem dX4_comesOff_57 : decode cX4_comesOff 57 = .ok (.iload_n 3, 1) := by decide +kernel
theorem dX4_comesOff_58 : decode cX4_comesOff 58 = .ok (.aload_n 0, 1) := by decide +kernel
theorem dX4_comesOff_59 : decode cX4_comesOff 59 = .ok (.getfield 88, 3) := by decide +kernel
theorem dX4_comesOff_62 : decode cX4_comesOff 62 = .ok (.if_icmp .ge 41, 3) := by decide +kernel
theorem dX4_comesOff_65 : decode cX4_comesOff 65 = .ok (.aload_n 0, 1) := by decide +kernel
theorem dX4_comesOff_66 : decode cX4_comesOff 66 = .ok (.getfield 42, 3) := by decide +kernel
theorem dX4_comesOff_69 : decode cX4_comesOff 69 = .ok (.iload_n 2, 1) := by decide +kernel
theorem dX4_comesOff_70 : decode cX4_comesOff 70 = .ok (.aload_n 0, 1) := by decide +kernel
theorem dX4_comesOff_71 : decode cX4_comesOff 71 = .ok (.getfield 42, 3) := by decide +kernel
theorem dX4_comesOff_74 : decode cX4_comesOff 74 = .ok (.iload_n 3, 1) := by decide +kernel
theorem dX4_comesOff_75 : decode cX4_comesOff 75 = .ok (.iaload, 1) := by decide +kernel
theorem dX4_comesOff_76 : decode cX4_comesOff 76 = .ok (.iastore, 1) := by decide +kernel
theorem dX4_comesOff_77 : decode cX4_comesOff 77 = .ok (.iload_n 2, 1) := by decide +kernel
theorem dX4_comesOff_78 : decode cX4_comesOff 78 = .ok (.aload_n 0, 1) := by decide +kernel
theorem dX4_comesOff_79 : decode cX4_comesOff 79 = .ok (.getfield 42, 3) := by decide +kernel
theorem dX4_comesOff_82 : decode cX4_comesOff 82 = .ok (.iload_n 3, 1) := by decide +kernel
theorem dX4_comesOff_83 : decode cX4_comesOff 83 = .ok (.iaload, 1) := by decide +kernel
theorem dX4_comesOff_84 : decode cX4_comesOff 84 = .ok (.iconst 2, 1) := by decide +kernel
theorem dX4_comesOff_85 : decode cX4_comesOff 85 = .ok (.idiv, 1) := by decide +kernel
theorem dX4_comesOff_86 : decode cX4_comesOff 86 = .ok (.iload_n 1, 1) := by decide +kernel
theorem dX4_comesOff_87 : decode cX4_comesOff 87 = .ok (.if_icmp .ne 7, 3) := by decide +kernel
theorem dX4_comesOff_90 : decode cX4_comesOff 90 = .ok (.iconst 0, 1) := by decide +kernel
theorem dX4_comesOff_91 : decode cX4_comesOff 91 = .ok (.goto 4, 3) := by decide +kernel
theorem dX4_comesOff_94 : decode cX4_comesOff 94 = .ok (.iconst 1, 1) := by decide +kernel
theorem dX4_comesOff_95 : decode cX4_comesOff 95 = .ok (.iadd, 1) := by decide +kernel
theorem dX4_comesOff_96 : decode cX4_comesOff 96 = .ok (.istore_n 2, 1) := by decide +kernel
theorem dX4_comesOff_97 : decode cX4_comesOff 97 = .ok (.iinc 3 1, 3) := by decide +kernel
theorem dX4_comesOff_100 : decode cX4_comesOff 100 = .ok (.goto (-43), 3) := by decide +kernel
theorem dX4_comesOff_103 : decode cX4_comesOff 103 = .ok (.aload_n 0, 1) := by decide +kernel
theorem dX4_comesOff_104 : decode cX4_comesOff 104 = .ok (.iload_n 2, 1) := by decide +kernel
theorem dX4_comesOff_105 : decode cX4_comesOff 105 = .ok (.putfield 88, 3) := by decide +kernel
theorem dX4_comesOff_108 : decode cX4_comesOff 108 = .ok (.aload_n 0, 1) := by decide +kernel
theorem dX4_comesOff_109 : decode cX4_comesOff 109 = .ok (.getfield 33, 3) := by decide +kernel
theorem dX4_comesOff_112 : decode cX4_comesOff 112 = .ok (.iload_n 1, 1) := by decide +kernel
theorem dX4_comesOff_113 : decode cX4_comesOff 113 = .ok (.iconst (-1), 1) := by decide +kernel
theorem dX4_comesOff_114 : decode cX4_comesOff 114 = .ok (.iastore, 1) := by decide +kernel
theorem dX4_comesOff_115 : decode cX4_comesOff 115 = .ok (.return_, 1) := by decide +kernel
set_option maxRecDepth 20000 in
theorem ggX4_back_X4_isMiner : GoodIn wsX4_back wsX4_isMiner := goodIn_r _ [15, 16, 17, 18, 14, 19, 28, 29, 30, 31, 32, 33, 34, 35, 36, 37, 38, 39, 40, 41, 42, 43, 44] (by decide +kernel) (by decide +kernel)
set_option maxRecDepth 20000 in
theorem gX4_back_X4_isMiner : GoodIn wsX4_back (wsV RX4 75 RX4 yX4_isMiner wsX4_isMiner) := goodIn_app (goodIn_of _ (by decide +kernel)) ggX4_back_X4_isMiner
set_option maxRecDepth 20000 in
theorem ggX4_back_X4_comesOff : GoodIn wsX4_back wsX4_comesOff := goodIn_r _ [23, 24, 25, 26, 27, 1, 28, 29, 30, 31, 32, 33, 34, 35, 36, 37, 38, 39, 40, 41, 42, 43, 44] (by decide +kernel) (by decide +kernel)
set_option maxRecDepth 20000 in
theorem gX4_back_X4_comesOff : GoodIn wsX4_back (wsV RX4 93 RX4 yX4_comesOff wsX4_comesOff) := goodIn_app (goodIn_of _ (by decide +kernel)) ggX4_back_X4_comesOff
theorem dX4_back_0 : decode cX4_back 0 = .ok (.aload_n 0, 1) := by decide +kernel
theorem dX4_back_1 : decode cX4_back 1 = .ok (.aload_n 0, 1) := by decide +kernel
theorem dX4_back_2 : decode cX4_back 2 = .ok (.iload_n 1, 1) := by decide +kernel
theorem dX4_back_3 : decode cX4_back 3 = .ok (.invokevirtual 75, 3) := by decide +kernel
theorem dX4_back_6 : decode cX4_back 6 = .ok (.ifCond .ne 7, 3) := by decide +kernel
theorem dX4_back_9 : decode cX4_back 9 = .ok (.iconst 1, 1) := by decide +kernel
theorem dX4_back_10 : decode cX4_back 10 = .ok (.goto 18, 3) := by decide +kernel
theorem dX4_back_13 : decode cX4_back 13 = .ok (.aload_n 0, 1) := by decide +kernel
theorem dX4_back_14 : decode cX4_back 14 = .ok (.getfield 33, 3) := by decide +kernel
theorem dX4_back_17 : decode cX4_back 17 = .ok (.iload_n 1, 1) := by decide +kernel
theorem dX4_back_18 : decode cX4_back 18 = .ok (.iaload, 1) := by decide +kernel
theorem dX4_back_19 : decode cX4_back 19 = .ok (.iconst (-1), 1) := by decide +kernel
theorem dX4_back_20 : decode cX4_back 20 = .ok (.if_icmp .ne 7, 3) := by decide +kernel
theorem dX4_back_23 : decode cX4_back 23 = .ok (.iconst 2, 1) := by decide +kernel
theorem dX4_back_24 : decode cX4_back 24 = .ok (.goto 4, 3) := by decide +kernel
theorem dX4_back_27 : decode cX4_back 27 = .ok (.iconst 0, 1) := by decide +kernel
theorem dX4_back_28 : decode cX4_back 28 = .ok (.putfield 45, 3) := by decide +kernel
theorem dX4_back_31 : decode cX4_back 31 = .ok (.aload_n 0, 1) := by decide +kernel
theorem dX4_back_32 : decode cX4_back 32 = .ok (.getfield 45, 3) := by decide +kernel
theorem dX4_back_35 : decode cX4_back 35 = .ok (.ifCond .le 5, 3) := by decide +kernel
theorem dX4_back_38 : decode cX4_back 38 = .ok (.iconst 0, 1) := by decide +kernel
theorem dX4_back_39 : decode cX4_back 39 = .ok (.ireturn, 1) := by decide +kernel
theorem dX4_back_40 : decode cX4_back 40 = .ok (.aload_n 0, 1) := by decide +kernel
theorem dX4_back_41 : decode cX4_back 41 = .ok (.getfield 33, 3) := by decide +kernel
theorem dX4_back_44 : decode cX4_back 44 = .ok (.iload_n 1, 1) := by decide +kernel
theorem dX4_back_45 : decode cX4_back 45 = .ok (.iaload, 1) := by decide +kernel
theorem dX4_back_46 : decode cX4_back 46 = .ok (.istore_n 2, 1) := by decide +kernel
theorem dX4_back_47 : decode cX4_back 47 = .ok (.aload_n 0, 1) := by decide +kernel
theorem dX4_back_48 : decode cX4_back 48 = .ok (.getfield 13, 3) := by decide +kernel
theorem dX4_back_51 : decode cX4_back 51 = .ok (.iload_n 2, 1) := by decide +kernel
theorem dX4_back_52 : decode cX4_back 52 = .ok (.iconst 0, 1) := by decide +kernel
theorem dX4_back_53 : decode cX4_back 53 = .ok (.iastore, 1) := by decide +kernel
theorem dX4_back_54 : decode cX4_back 54 = .ok (.aload_n 0, 1) := by decide +kernel
theorem dX4_back_55 : decode cX4_back 55 = .ok (.getfield 16, 3) := by decide +kernel
theorem dX4_back_58 : decode cX4_back 58 = .ok (.iload_n 2, 1) := by decide +kernel
theorem dX4_back_59 : decode cX4_back 59 = .ok (.dup2, 1) := by decide +kernel
theorem dX4_back_60 : decode cX4_back 60 = .ok (.iaload, 1) := by decide +kernel
theorem dX4_back_61 : decode cX4_back 61 = .ok (.iconst 1, 1) := by decide +kernel
theorem dX4_back_62 : decode cX4_back 62 = .ok (.iadd, 1) := by decide +kernel
theorem dX4_back_63 : decode cX4_back 63 = .ok (.iastore, 1) := by decide +kernel
theorem dX4_back_64 : decode cX4_back 64 = .ok (.aload_n 0, 1) := by decide +kernel
theorem dX4_back_65 : decode cX4_back 65 = .ok (.getfield 27, 3) := by decide +kernel
theorem dX4_back_68 : decode cX4_back 68 = .ok (.iload_n 2, 1) := by decide +kernel
theorem dX4_back_69 : decode cX4_back 69 = .ok (.aload_n 0, 1) := by decide +kernel
theorem dX4_back_70 : decode cX4_back 70 = .ok (.getfield 27, 3) := by decide +kernel
theorem dX4_back_73 : decode cX4_back 73 = .ok (.iload_n 2, 1) := by decide +kernel
theorem dX4_back_74 : decode cX4_back 74 = .ok (.daload, 1) := by decide +kernel
theorem dX4_back_75 : decode cX4_back 75 = .ok (.ldc2_w 91, 3) := by decide +kernel
theorem dX4_back_78 : decode cX4_back 78 = .ok (.dmul, 1) := by decide +kernel
theorem dX4_back_79 : decode cX4_back 79 = .ok (.dastore, 1) := by decide +kernel
theorem dX4_back_80 : decode cX4_back 80 = .ok (.aload_n 0, 1) := by decide +kernel
theorem dX4_back_81 : decode cX4_back 81 = .ok (.getfield 23, 3) := by decide +kernel
theorem dX4_back_84 : decode cX4_back 84 = .ok (.iload_n 2, 1) := by decide +kernel
theorem dX4_back_85 : decode cX4_back 85 = .ok (.aload_n 0, 1) := by decide +kernel
theorem dX4_back_86 : decode cX4_back 86 = .ok (.getfield 23, 3) := by decide +kernel
theorem dX4_back_89 : decode cX4_back 89 = .ok (.iload_n 2, 1) := by decide +kernel
theorem dX4_back_90 : decode cX4_back 90 = .ok (.daload, 1) := by decide +kernel
theorem dX4_back_91 : decode cX4_back 91 = .ok (.aload_n 0, 1) := by decide +kernel
theorem dX4_back_92 : decode cX4_back 92 = .ok (.getfield 27, 3) := by decide +kernel
theorem dX4_back_95 : decode cX4_back 95 = .ok (.iload_n 2, 1) := by decide +kernel
theorem dX4_back_96 : decode cX4_back 96 = .ok (.daload, 1) := by decide +kernel
theorem dX4_back_97 : decode cX4_back 97 = .ok (.dcmp .l, 1) := by decide +kernel
theorem dX4_back_98 : decode cX4_back 98 = .ok (.ifCond .le 12, 3) := by decide +kernel
theorem dX4_back_101 : decode cX4_back 101 = .ok (.aload_n 0, 1) := by decide +kernel
theorem dX4_back_102 : decode cX4_back 102 = .ok (.getfield 27, 3) := by decide +kernel
theorem dX4_back_105 : decode cX4_back 105 = .ok (.iload_n 2, 1) := by decide +kernel
theorem dX4_back_106 : decode cX4_back 106 = .ok (.daload, 1) := by decide +kernel
theorem dX4_back_107 : decode cX4_back 107 = .ok (.goto 9, 3) := by decide +kernel
theorem dX4_back_110 : decode cX4_back 110 = .ok (.aload_n 0, 1) := by decide +kernel
theorem dX4_back_111 : decode cX4_back 111 = .ok (.getfield 23, 3) := by decide +kernel
theorem dX4_back_114 : decode cX4_back 114 = .ok (.iload_n 2, 1) := by decide +kernel
theorem dX4_back_115 : decode cX4_back 115 = .ok (.daload, 1) := by decide +kernel
theorem dX4_back_116 : decode cX4_back 116 = .ok (.dastore, 1) := by decide +kernel
theorem dX4_back_117 : decode cX4_back 117 = .ok (.aload_n 0, 1) := by decide +kernel
theorem dX4_back_118 : decode cX4_back 118 = .ok (.getfield 19, 3) := by decide +kernel
theorem dX4_back_121 : decode cX4_back 121 = .ok (.iload_n 2, 1) := by decide +kernel
theorem dX4_back_122 : decode cX4_back 122 = .ok (.aload_n 0, 1) := by decide +kernel
theorem dX4_back_123 : decode cX4_back 123 = .ok (.getfield 19, 3) := by decide +kernel
theorem dX4_back_126 : decode cX4_back 126 = .ok (.iload_n 2, 1) := by decide +kernel
theorem dX4_back_127 : decode cX4_back 127 = .ok (.baload, 1) := by decide +kernel
theorem dX4_back_128 : decode cX4_back 128 = .ok (.ifCond .ne 15, 3) := by decide +kernel
theorem dX4_back_131 : decode cX4_back 131 = .ok (.aload_n 0, 1) := by decide +kernel
theorem dX4_back_132 : decode cX4_back 132 = .ok (.getfield 16, 3) := by decide +kernel
theorem dX4_back_135 : decode cX4_back 135 = .ok (.iload_n 2, 1) := by decide +kernel
theorem dX4_back_136 : decode cX4_back 136 = .ok (.iaload, 1) := by decide +kernel
theorem dX4_back_137 : decode cX4_back 137 = .ok (.bipush 7, 2) := by decide +kernel
theorem dX4_back_139 : decode cX4_back 139 = .ok (.irem, 1) := by decide +kernel
theorem dX4_back_140 : decode cX4_back 140 = .ok (.ifCond .ne 7, 3) := by decide +kernel
theorem dX4_back_143 : decode cX4_back 143 = .ok (.iconst 1, 1) := by decide +kernel
theorem dX4_back_144 : decode cX4_back 144 = .ok (.goto 4, 3) := by decide +kernel
theorem dX4_back_147 : decode cX4_back 147 = .ok (.iconst 0, 1) := by decide +kernel
theorem dX4_back_148 : decode cX4_back 148 = .ok (.bastore, 1) := by decide +kernel
theorem dX4_back_149 : decode cX4_back 149 = .ok (.aload_n 0, 1) := by decide +kernel
theorem dX4_back_150 : decode cX4_back 150 = .ok (.iload_n 1, 1) := by decide +kernel
theorem dX4_back_151 : decode cX4_back 151 = .ok (.invokevirtual 93, 3) := by decide +kernel
theorem dX4_back_154 : decode cX4_back 154 = .ok (.aload_n 0, 1) := by decide +kernel
theorem dX4_back_155 : decode cX4_back 155 = .ok (.getfield 82, 3) := by decide +kernel
theorem dX4_back_158 : decode cX4_back 158 = .ok (.aload_n 0, 1) := by decide +kernel
theorem dX4_back_159 : decode cX4_back 159 = .ok (.getfield 36, 3) := by decide +kernel
theorem dX4_back_162 : decode cX4_back 162 = .ok (.iload_n 1, 1) := by decide +kernel
theorem dX4_back_163 : decode cX4_back 163 = .ok (.iaload, 1) := by decide +kernel
theorem dX4_back_164 : decode cX4_back 164 = .ok (.isub, 1) := by decide +kernel
theorem dX4_back_165 : decode cX4_back 165 = .ok (.ireturn, 1) := by decide +kernel
set_option maxRecDepth 20000 in
theorem ggX4_isWeak_X4_full : GoodIn wsX4_isWeak wsX4_full := goodIn_r _ [7, 8, 9, 10] (by decide +kernel) (by decide +kernel)
set_option maxRecDepth 20000 in
theorem gX4_isWeak_X4_full : GoodIn wsX4_isWeak (va_wsS RX4 65 yX4_full wsX4_full) := goodIn_app (goodIn_of _ (by decide +kernel)) ggX4_isWeak_X4_full
theorem dX4_isWeak_0 : decode cX4_isWeak 0 = .ok (.aload_n 0, 1) := by decide +kernel
theorem dX4_isWeak_1 : decode cX4_isWeak 1 = .ok (.getfield 27, 3) := by decide +kernel
theorem dX4_isWeak_4 : decode cX4_isWeak 4 = .ok (.iload_n 1, 1) := by decide +kernel
theorem dX4_isWeak_5 : decode cX4_isWeak 5 = .ok (.daload, 1) := by decide +kernel
theorem dX4_isWeak_6 : decode cX4_isWeak 6 = .ok (.ldc2_w 97, 3) := by decide +kernel
theorem dX4_isWeak_9 : decode cX4_isWeak 9 = .ok (.aload_n 0, 1) := by decide +kernel
theorem dX4_isWeak_10 : decode cX4_isWeak 10 = .ok (.getfield 7, 3) := by decide +kernel
theorem dX4_isWeak_13 : decode cX4_isWeak 13 = .ok (.iload_n 1, 1) := by decide +kernel
theorem dX4_isWeak_14 : decode cX4_isWeak 14 = .ok (.iaload, 1) := by decide +kernel
theorem dX4_isWeak_15 : decode cX4_isWeak 15 = .ok (.invokestatic 65, 3) := by decide +kernel
theorem dX4_isWeak_18 : decode cX4_isWeak 18 = .ok (.dmul, 1) := by decide +kernel
theorem dX4_isWeak_19 : decode cX4_isWeak 19 = .ok (.dcmp .g, 1) := by decide +kernel
theorem dX4_isWeak_20 : decode cX4_isWeak 20 = .ok (.ifCond .ge 7, 3) := by decide +kernel
theorem dX4_isWeak_23 : decode cX4_isWeak 23 = .ok (.iconst 1, 1) := by decide +kernel
theorem dX4_isWeak_24 : decode cX4_isWeak 24 = .ok (.goto 4, 3) := by decide +kernel
theorem dX4_isWeak_27 : decode cX4_isWeak 27 = .ok (.iconst 0, 1) := by decide +kernel
theorem dX4_isWeak_28 : decode cX4_isWeak 28 = .ok (.ireturn, 1) := by decide +kernel
set_option maxRecDepth 20000 in
theorem ggX4_test_X4_isLamp : GoodIn wsX4_test wsX4_isLamp := goodIn_r _ [8, 9, 10, 11, 7, 12, 26, 27, 28, 29, 30, 31, 32, 33, 34, 35, 36, 37, 38, 39, 40, 41, 42] (by decide +kernel) (by decide +kernel)
set_option maxRecDepth 20000 in
theorem gX4_test_X4_isLamp : GoodIn wsX4_test (wsV RX4 99 RX4 yX4_isLamp wsX4_isLamp) := goodIn_app (goodIn_of _ (by decide +kernel)) ggX4_test_X4_isLamp
set_option maxRecDepth 20000 in
theorem ggX4_test_X4_isWeak : GoodIn wsX4_test wsX4_isWeak := goodIn_r _ [16, 17, 18, 19, 20, 21, 7, 22, 23, 24, 25, 26, 27, 28, 29, 30, 31, 32, 33, 34, 35, 36, 37, 38, 39, 40, 41, 42] (by decide +kernel) (by decide +kernel)
set_option maxRecDepth 20000 in
theorem gX4_test_X4_isWeak : GoodIn wsX4_test (wsV RX4 102 RX4 yX4_isWeak wsX4_isWeak) := goodIn_app (goodIn_of _ (by decide +kernel)) ggX4_test_X4_isWeak
theorem dX4_test_0 : decode cX4_test 0 = .ok (.aload_n 0, 1) := by decide +kernel
theorem dX4_test_1 : decode cX4_test 1 = .ok (.aload_n 0, 1) := by decide +kernel
theorem dX4_test_2 : decode cX4_test 2 = .ok (.iload_n 1, 1) := by decide +kernel
theorem dX4_test_3 : decode cX4_test 3 = .ok (.invokevirtual 99, 3) := by decide +kernel
theorem dX4_test_6 : decode cX4_test 6 = .ok (.ifCond .ne 7, 3) := by decide +kernel
theorem dX4_test_9 : decode cX4_test 9 = .ok (.iconst 1, 1) := by decide +kernel
theorem dX4_test_10 : decode cX4_test 10 = .ok (.goto 17, 3) := by decide +kernel
theorem dX4_test_13 : decode cX4_test 13 = .ok (.aload_n 0, 1) := by decide +kernel
theorem dX4_test_14 : decode cX4_test 14 = .ok (.getfield 13, 3) := by decide +kernel
theorem dX4_test_17 : decode cX4_test 17 = .ok (.iload_n 1, 1) := by decide +kernel
theorem dX4_test_18 : decode cX4_test 18 = .ok (.iaload, 1) := by decide +kernel
theorem dX4_test_19 : decode cX4_test 19 = .ok (.ifCond .ne 7, 3) := by decide +kernel
theorem dX4_test_22 : decode cX4_test 22 = .ok (.iconst 0, 1) := by decide +kernel
theorem dX4_test_23 : decode cX4_test 23 = .ok (.goto 4, 3) := by decide +kernel
theorem dX4_test_26 : decode cX4_test 26 = .ok (.iconst 2, 1) := by decide +kernel
theorem dX4_test_27 : decode cX4_test 27 = .ok (.putfield 45, 3) := by decide +kernel
theorem dX4_test_30 : decode cX4_test 30 = .ok (.aload_n 0, 1) := by decide +kernel
theorem dX4_test_31 : decode cX4_test 31 = .ok (.getfield 45, 3) := by decide +kernel
theorem dX4_test_34 : decode cX4_test 34 = .ok (.ifCond .le 5, 3) := by decide +kernel
theorem dX4_test_37 : decode cX4_test 37 = .ok (.iconst 0, 1) := by decide +kernel
theorem dX4_test_38 : decode cX4_test 38 = .ok (.ireturn, 1) := by decide +kernel
theorem dX4_test_39 : decode cX4_test 39 = .ok (.aload_n 0, 1) := by decide +kernel
theorem dX4_test_40 : decode cX4_test 40 = .ok (.getfield 19, 3) := by decide +kernel
theorem dX4_test_43 : decode cX4_test 43 = .ok (.iload_n 1, 1) := by decide +kernel
theorem dX4_test_44 : decode cX4_test 44 = .ok (.baload, 1) := by decide +kernel
theorem dX4_test_45 : decode cX4_test 45 = .ok (.ifCond .eq 7, 3) := by decide +kernel
theorem dX4_test_48 : decode cX4_test 48 = .ok (.iconst 1, 1) := by decide +kernel
theorem dX4_test_49 : decode cX4_test 49 = .ok (.goto 16, 3) := by decide +kernel
theorem dX4_test_52 : decode cX4_test 52 = .ok (.aload_n 0, 1) := by decide +kernel
theorem dX4_test_53 : decode cX4_test 53 = .ok (.iload_n 1, 1) := by decide +kernel
theorem dX4_test_54 : decode cX4_test 54 = .ok (.invokevirtual 102, 3) := by decide +kernel
theorem dX4_test_57 : decode cX4_test 57 = .ok (.ifCond .eq 7, 3) := by decide +kernel
theorem dX4_test_60 : decode cX4_test 60 = .ok (.iconst 2, 1) := by decide +kernel
theorem dX4_test_61 : decode cX4_test 61 = .ok (.goto 4, 3) := by decide +kernel
theorem dX4_test_64 : decode cX4_test 64 = .ok (.iconst 0, 1) := by decide +kernel
theorem dX4_test_65 : decode cX4_test 65 = .ok (.istore_n 2, 1) := by decide +kernel
theorem dX4_test_66 : decode cX4_test 66 = .ok (.aload_n 0, 1) := by decide +kernel
theorem dX4_test_67 : decode cX4_test 67 = .ok (.getfield 13, 3) := by decide +kernel
theorem dX4_test_70 : decode cX4_test 70 = .ok (.iload_n 1, 1) := by decide +kernel
theorem dX4_test_71 : decode cX4_test 71 = .ok (.iload_n 2, 1) := by decide +kernel
theorem dX4_test_72 : decode cX4_test 72 = .ok (.ifCond .le 7, 3) := by decide +kernel
theorem dX4_test_75 : decode cX4_test 75 = .ok (.iconst 2, 1) := by decide +kernel
theorem dX4_test_76 : decode cX4_test 76 = .ok (.goto 4, 3) := by decide +kernel
theorem dX4_test_79 : decode cX4_test 79 = .ok (.iconst 0, 1) := by decide +kernel
theorem dX4_test_80 : decode cX4_test 80 = .ok (.iastore, 1) := by decide +kernel
theorem dX4_test_81 : decode cX4_test 81 = .ok (.iload_n 2, 1) := by decide +kernel
theorem dX4_test_82 : decode cX4_test 82 = .ok (.ireturn, 1) := by decide +kernel
set_option maxRecDepth 20000 in
theorem ggX4_mend_X4_isLamp : GoodIn wsX4_mend wsX4_isLamp := goodIn_r _ [8, 9, 10, 11, 7, 12, 26, 27, 28, 29, 30, 31, 32, 33, 34, 35, 36, 37, 38, 39, 40, 41, 42] (by decide +kernel) (by decide +kernel)
set_option maxRecDepth 20000 in
theorem gX4_mend_X4_isLamp : GoodIn wsX4_mend (wsV RX4 99 RX4 yX4_isLamp wsX4_isLamp) := goodIn_app (goodIn_of _ (by decide +kernel)) ggX4_mend_X4_isLamp
set_option maxRecDepth 20000 in
theorem ggX4_mend_X4_isWeak : GoodIn wsX4_mend wsX4_isWeak := goodIn_r _ [16, 17, 18, 19, 20, 21, 7, 22, 23, 24, 25, 26, 27, 28, 29, 30, 31, 32, 33, 34, 35, 36, 37, 38, 39, 40, 41, 42] (by decide +kernel) (by decide +kernel)
set_option maxRecDepth 20000 in
theorem gX4_mend_X4_isWeak : GoodIn wsX4_mend (wsV RX4 102 RX4 yX4_isWeak wsX4_isWeak) := goodIn_app (goodIn_of _ (by decide +kernel)) ggX4_mend_X4_isWeak
theorem dX4_mend_0 : decode cX4_mend 0 = .ok (.aload_n 0, 1) := by decide +kernel
theorem dX4_mend_1 : decode cX4_mend 1 = .ok (.aload_n 0, 1) := by decide +kernel
theorem dX4_mend_2 : decode cX4_mend 2 = .ok (.iload_n 1, 1) := by decide +kernel
theorem dX4_mend_3 : decode cX4_mend 3 = .ok (.invokevirtual 99, 3) := by decide +kernel
theorem dX4_mend_6 : decode cX4_mend 6 = .ok (.ifCond .ne 7, 3) := by decide +kernel
theorem dX4_mend_9 : decode cX4_mend 9 = .ok (.iconst 1, 1) := by decide +kernel
theorem dX4_mend_10 : decode cX4_mend 10 = .ok (.goto 18, 3) := by decide +kernel
theorem dX4_mend_13 : decode cX4_mend 13 = .ok (.aload_n 0, 1) := by decide +kernel
theorem dX4_mend_14 : decode cX4_mend 14 = .ok (.getfield 13, 3) := by decide +kernel
theorem dX4_mend_17 : decode cX4_mend 17 = .ok (.iload_n 1, 1) := by decide +kernel
theorem dX4_mend_18 : decode cX4_mend 18 = .ok (.iaload, 1) := by decide +kernel
theorem dX4_mend_19 : decode cX4_mend 19 = .ok (.iconst 2, 1) := by decide +kernel
theorem dX4_mend_20 : decode cX4_mend 20 = .ok (.if_icmp .ne 7, 3) := by decide +kernel
theorem dX4_mend_23 : decode cX4_mend 23 = .ok (.iconst 0, 1) := by decide +kernel
theorem dX4_mend_24 : decode cX4_mend 24 = .ok (.goto 4, 3) := by decide +kernel
theorem dX4_mend_27 : decode cX4_mend 27 = .ok (.iconst 2, 1) := by decide +kernel
theorem dX4_mend_28 : decode cX4_mend 28 = .ok (.putfield 45, 3) := by decide +kernel
theorem dX4_mend_31 : decode cX4_mend 31 = .ok (.aload_n 0, 1) := by decide +kernel
theorem dX4_mend_32 : decode cX4_mend 32 = .ok (.getfield 45, 3) := by decide +kernel
theorem dX4_mend_35 : decode cX4_mend 35 = .ok (.ifCond .le 5, 3) := by decide +kernel
theorem dX4_mend_38 : decode cX4_mend 38 = .ok (.iconst 0, 1) := by decide +kernel
theorem dX4_mend_39 : decode cX4_mend 39 = .ok (.ireturn, 1) := by decide +kernel
theorem dX4_mend_40 : decode cX4_mend 40 = .ok (.aload_n 0, 1) := by decide +kernel
theorem dX4_mend_41 : decode cX4_mend 41 = .ok (.getfield 19, 3) := by decide +kernel
theorem dX4_mend_44 : decode cX4_mend 44 = .ok (.iload_n 1, 1) := by decide +kernel
theorem dX4_mend_45 : decode cX4_mend 45 = .ok (.iconst 0, 1) := by decide +kernel
theorem dX4_mend_46 : decode cX4_mend 46 = .ok (.bastore, 1) := by decide +kernel
theorem dX4_mend_47 : decode cX4_mend 47 = .ok (.aload_n 0, 1) := by decide +kernel
theorem dX4_mend_48 : decode cX4_mend 48 = .ok (.getfield 13, 3) := by decide +kernel
theorem dX4_mend_51 : decode cX4_mend 51 = .ok (.iload_n 1, 1) := by decide +kernel
theorem dX4_mend_52 : decode cX4_mend 52 = .ok (.aload_n 0, 1) := by decide +kernel
theorem dX4_mend_53 : decode cX4_mend 53 = .ok (.iload_n 1, 1) := by decide +kernel
theorem dX4_mend_54 : decode cX4_mend 54 = .ok (.invokevirtual 102, 3) := by decide +kernel
theorem dX4_mend_57 : decode cX4_mend 57 = .ok (.ifCond .eq 7, 3) := by decide +kernel
theorem dX4_mend_60 : decode cX4_mend 60 = .ok (.iconst 3, 1) := by decide +kernel
theorem dX4_mend_61 : decode cX4_mend 61 = .ok (.goto 4, 3) := by decide +kernel
theorem dX4_mend_64 : decode cX4_mend 64 = .ok (.iconst 0, 1) := by decide +kernel
theorem dX4_mend_65 : decode cX4_mend 65 = .ok (.iastore, 1) := by decide +kernel
theorem dX4_mend_66 : decode cX4_mend 66 = .ok (.aload_n 0, 1) := by decide +kernel
theorem dX4_mend_67 : decode cX4_mend 67 = .ok (.getfield 13, 3) := by decide +kernel
theorem dX4_mend_70 : decode cX4_mend 70 = .ok (.iload_n 1, 1) := by decide +kernel
theorem dX4_mend_71 : decode cX4_mend 71 = .ok (.iaload, 1) := by decide +kernel
theorem dX4_mend_72 : decode cX4_mend 72 = .ok (.ifCond .ne 7, 3) := by decide +kernel
theorem dX4_mend_75 : decode cX4_mend 75 = .ok (.iconst 1, 1) := by decide +kernel
theorem dX4_mend_76 : decode cX4_mend 76 = .ok (.goto 4, 3) := by decide +kernel
theorem dX4_mend_79 : decode cX4_mend 79 = .ok (.iconst 0, 1) := by decide +kernel
theorem dX4_mend_80 : decode cX4_mend 80 = .ok (.ireturn, 1) := by decide +kernel
theorem dX4_isAlarmed_0 : decode cX4_isAlarmed 0 = .ok (.iconst 0, 1) := by decide +kernel
theorem dX4_isAlarmed_1 : decode cX4_isAlarmed 1 = .ok (.istore_n 2, 1) := by decide +kernel
theorem dX4_isAlarmed_2 : decode cX4_isAlarmed 2 = .ok (.iconst 0, 1) := by decide +kernel
theorem dX4_isAlarmed_3 : decode cX4_isAlarmed 3 = .ok (.istore_n 3, 1) := by decide +kernel
theorem dX4_isAlarmed_4 : decode cX4_isAlarmed 4 = .ok (.iload_n 3, 1) := by decide +kernel
theorem dX4_isAlarmed_5 : decode cX4_isAlarmed 5 = .ok (.aload_n 0, 1) := by decide +kernel
theorem dX4_isAlarmed_6 : decode cX4_isAlarmed 6 = .ok (.getfield 88, 3) := by decide +kernel
theorem dX4_isAlarmed_9 : decode cX4_isAlarmed 9 = .ok (.if_icmp .ge 29, 3) := by decide +kernel
theorem dX4_isAlarmed_12 : decode cX4_isAlarmed 12 = .ok (.iload_n 2, 1) := by decide +kernel
theorem dX4_isAlarmed_13 : decode cX4_isAlarmed 13 = .ok (.ifCond .ne 13, 3) := by decide +kernel
theorem dX4_isAlarmed_16 : decode cX4_isAlarmed 16 = .ok (.aload_n 0, 1) := by decide +kernel
theorem dX4_isAlarmed_17 : decode cX4_isAlarmed 17 = .ok (.getfield 42, 3) := by decide +kernel
theorem dX4_isAlarmed_20 : decode cX4_isAlarmed 20 = .ok (.iload_n 3, 1) := by decide +kernel
theorem dX4_isAlarmed_21 : decode cX4_isAlarmed 21 = .ok (.iaload, 1) := by decide +kernel
theorem dX4_isAlarmed_22 : decode cX4_isAlarmed 22 = .ok (.iload_n 1, 1) := by decide +kernel
theorem dX4_isAlarmed_23 : decode cX4_isAlarmed 23 = .ok (.if_icmp .ne 7, 3) := by decide +kernel
theorem dX4_isAlarmed_26 : decode cX4_isAlarmed 26 = .ok (.iconst 1, 1) := by decide +kernel
theorem dX4_isAlarmed_27 : decode cX4_isAlarmed 27 = .ok (.goto 4, 3) := by decide +kernel
theorem dX4_isAlarmed_30 : decode cX4_isAlarmed 30 = .ok (.iconst 0, 1) := by decide +kernel
theorem dX4_isAlarmed_31 : decode cX4_isAlarmed 31 = .ok (.istore_n 2, 1) := by decide +kernel
theorem dX4_isAlarmed_32 : decode cX4_isAlarmed 32 = .ok (.iinc 3 1, 3) := by decide +kernel
theorem dX4_isAlarmed_35 : decode cX4_isAlarmed 35 = .ok (.goto (-31), 3) := by decide +kernel
theorem dX4_isAlarmed_38 : decode cX4_isAlarmed 38 = .ok (.iload_n 2, 1) := by decide +kernel
theorem dX4_isAlarmed_39 : decode cX4_isAlarmed 39 = .ok (.ireturn, 1) := by decide +kernel
set_option maxRecDepth 20000 in
theorem ggX4_begins_X4_isAlarmed : GoodIn wsX4_begins wsX4_isAlarmed := goodIn_r _ [7, 2, 1, 8, 9, 10, 11, 12, 13, 14, 15, 16, 17, 18, 19, 20, 21, 22, 23, 24] (by decide +kernel) (by decide +kernel)
set_option maxRecDepth 20000 in
theorem gX4_begins_X4_isAlarmed : GoodIn wsX4_begins (wsV RX4 105 RX4 yX4_isAlarmed wsX4_isAlarmed) := goodIn_app (goodIn_of _ (by decide +kernel)) ggX4_begins_X4_isAlarmed
theorem dX4_begins_0 : decode cX4_begins 0 = .ok (.iload_n 2, 1) := by decide +kernel
theorem dX4_begins_1 : decode cX4_begins 1 = .ok (.ifCond .eq 11, 3) := by decide +kernel
theorem dX4_begins_4 : decode cX4_begins 4 = .ok (.aload_n 0, 1) := by decide +kernel
theorem dX4_begins_5 : decode cX4_begins 5 = .ok (.iload_n 1, 1) := by decide +kernel
theorem dX4_begins_6 : decode cX4_begins 6 = .ok (.invokevirtual 105, 3) := by decide +kernel
theorem dX4_begins_9 : decode cX4_begins 9 = .ok (.ifCond .eq 5, 3) := by decide +kernel
theorem dX4_begins_12 : decode cX4_begins 12 = .ok (.iconst 0, 1) := by decide +kernel
theorem dX4_begins_13 : decode cX4_begins 13 = .ok (.ireturn, 1) := by decide +kernel
theorem dX4_begins_14 : decode cX4_begins 14 = .ok (.aload_n 0, 1) := by decide +kernel
theorem dX4_begins_15 : decode cX4_begins 15 = .ok (.getfield 42, 3) := by decide +kernel
theorem dX4_begins_18 : decode cX4_begins 18 = .ok (.aload_n 0, 1) := by decide +kernel
theorem dX4_begins_19 : decode cX4_begins 19 = .ok (.getfield 88, 3) := by decide +kernel
theorem dX4_begins_22 : decode cX4_begins 22 = .ok (.iload_n 1, 1) := by decide +kernel
theorem dX4_begins_23 : decode cX4_begins 23 = .ok (.iastore, 1) := by decide +kernel
theorem dX4_begins_24 : decode cX4_begins 24 = .ok (.aload_n 0, 1) := by decide +kernel
theorem dX4_begins_25 : decode cX4_begins 25 = .ok (.dup, 1) := by decide +kernel
theorem dX4_begins_26 : decode cX4_begins 26 = .ok (.getfield 88, 3) := by decide +kernel
theorem dX4_begins_29 : decode cX4_begins 29 = .ok (.iconst 1, 1) := by decide +kernel
theorem dX4_begins_30 : decode cX4_begins 30 = .ok (.iadd, 1) := by decide +kernel
theorem dX4_begins_31 : decode cX4_begins 31 = .ok (.putfield 88, 3) := by decide +kernel
theorem dX4_begins_34 : decode cX4_begins 34 = .ok (.iconst 1, 1) := by decide +kernel
theorem dX4_begins_35 : decode cX4_begins 35 = .ok (.ireturn, 1) := by decide +kernel
set_option maxRecDepth 20000 in
theorem ggX4_goesBy_X4_begins : GoodIn wsX4_goesBy wsX4_begins := goodIn_r _ [16, 17, 18, 19, 20, 21, 15, 22, 23, 24, 25, 26, 27, 28, 29, 30, 31, 32, 33, 34, 35, 36, 37, 38, 39] (by decide +kernel) (by decide +kernel)
set_option maxRecDepth 20000 in
theorem gX4_goesBy_X4_begins : GoodIn wsX4_goesBy (wsV RX4 112 RX4 yX4_begins wsX4_begins) := goodIn_app (goodIn_of _ (by decide +kernel)) ggX4_goesBy_X4_begins
theorem dX4_goesBy_0 : decode cX4_goesBy 0 = .ok (.iconst 0, 1) := by decide +kernel
theorem dX4_goesBy_1 : decode cX4_goesBy 1 = .ok (.istore_n 1, 1) := by decide +kernel
theorem dX4_goesBy_2 : decode cX4_goesBy 2 = .ok (.iload_n 1, 1) := by decide +kernel
theorem dX4_goesBy_3 : decode cX4_goesBy 3 = .ok (.aload_n 0, 1) := by decide +kernel
theorem dX4_goesBy_4 : decode cX4_goesBy 4 = .ok (.getfield 49, 3) := by decide +kernel
theorem dX4_goesBy_7 : decode cX4_goesBy 7 = .ok (.if_icmp .ge 60, 3) := by decide +kernel
theorem dX4_goesBy_10 : decode cX4_goesBy 10 = .ok (.aload_n 0, 1) := by decide +kernel
theorem dX4_goesBy_11 : decode cX4_goesBy 11 = .ok (.getfield 13, 3) := by decide +kernel
theorem dX4_goesBy_14 : decode cX4_goesBy 14 = .ok (.iload_n 1, 1) := by decide +kernel
theorem dX4_goesBy_15 : decode cX4_goesBy 15 = .ok (.iaload, 1) := by decide +kernel
theorem dX4_goesBy_16 : decode cX4_goesBy 16 = .ok (.iconst 1, 1) := by decide +kernel
theorem dX4_goesBy_17 : decode cX4_goesBy 17 = .ok (.if_icmp .ne 44, 3) := by decide +kernel
theorem dX4_goesBy_20 : decode cX4_goesBy 20 = .ok (.aload_n 0, 1) := by decide +kernel
theorem dX4_goesBy_21 : decode cX4_goesBy 21 = .ok (.getfield 23, 3) := by decide +kernel
theorem dX4_goesBy_24 : decode cX4_goesBy 24 = .ok (.iload_n 1, 1) := by decide +kernel
theorem dX4_goesBy_25 : decode cX4_goesBy 25 = .ok (.daload, 1) := by decide +kernel
theorem dX4_goesBy_26 : decode cX4_goesBy 26 = .ok (.aload_n 0, 1) := by decide +kernel
theorem dX4_goesBy_27 : decode cX4_goesBy 27 = .ok (.getfield 19, 3) := by decide +kernel
theorem dX4_goesBy_30 : decode cX4_goesBy 30 = .ok (.iload_n 1, 1) := by decide +kernel
theorem dX4_goesBy_31 : decode cX4_goesBy 31 = .ok (.baload, 1) := by decide +kernel
theorem dX4_goesBy_32 : decode cX4_goesBy 32 = .ok (.ifCond .eq 9, 3) := by decide +kernel
theorem dX4_goesBy_35 : decode cX4_goesBy 35 = .ok (.ldc2_w 108, 3) := by decide +kernel
theorem dX4_goesBy_38 : decode cX4_goesBy 38 = .ok (.goto 4, 3) := by decide +kernel
theorem dX4_goesBy_41 : decode cX4_goesBy 41 = .ok (.dconst 1, 1) := by decide +kernel
theorem dX4_goesBy_42 : decode cX4_goesBy 42 = .ok (.dsub, 1) := by decide +kernel
theorem dX4_goesBy_43 : decode cX4_goesBy 43 = .ok (.dstore_n 2, 1) := by decide +kernel
theorem dX4_goesBy_44 : decode cX4_goesBy 44 = .ok (.aload_n 0, 1) := by decide +kernel
theorem dX4_goesBy_45 : decode cX4_goesBy 45 = .ok (.getfield 23, 3) := by decide +kernel
theorem dX4_goesBy_48 : decode cX4_goesBy 48 = .ok (.iload_n 1, 1) := by decide +kernel
theorem dX4_goesBy_49 : decode cX4_goesBy 49 = .ok (.dload_n 2, 1) := by decide +kernel
theorem dX4_goesBy_50 : decode cX4_goesBy 50 = .ok (.dconst 0, 1) := by decide +kernel
theorem dX4_goesBy_51 : decode cX4_goesBy 51 = .ok (.dcmp .l, 1) := by decide +kernel
theorem dX4_goesBy_52 : decode cX4_goesBy 52 = .ok (.ifCond .le 7, 3) := by decide +kernel
theorem dX4_goesBy_55 : decode cX4_goesBy 55 = .ok (.dload_n 2, 1) := by decide +kernel
theorem dX4_goesBy_56 : decode cX4_goesBy 56 = .ok (.goto 4, 3) := by decide +kernel
theorem dX4_goesBy_59 : decode cX4_goesBy 59 = .ok (.dconst 0, 1) := by decide +kernel
theorem dX4_goesBy_60 : decode cX4_goesBy 60 = .ok (.dastore, 1) := by decide +kernel
theorem dX4_goesBy_61 : decode cX4_goesBy 61 = .ok (.iinc 1 1, 3) := by decide +kernel
theorem dX4_goesBy_64 : decode cX4_goesBy 64 = .ok (.goto (-62), 3) := by decide +kernel
theorem dX4_goesBy_67 : decode cX4_goesBy 67 = .ok (.iconst 0, 1) := by decide +kernel
theorem dX4_goesBy_68 : decode cX4_goesBy 68 = .ok (.istore_n 1, 1) := by decide +kernel
theorem dX4_goesBy_69 : decode cX4_goesBy 69 = .ok (.iconst 0, 1) := by decide +kernel
theorem dX4_goesBy_70 : decode cX4_goesBy 70 = .ok (.istore_n 2, 1) := by decide +kernel
theorem dX4_goesBy_71 : decode cX4_goesBy 71 = .ok (.iload_n 2, 1) := by decide +kernel
theorem dX4_goesBy_72 : decode cX4_goesBy 72 = .ok (.aload_n 0, 1) := by decide +kernel
theorem dX4_goesBy_73 : decode cX4_goesBy 73 = .ok (.getfield 49, 3) := by decide +kernel
theorem dX4_goesBy_76 : decode cX4_goesBy 76 = .ok (.if_icmp .ge 80, 3) := by decide +kernel
theorem dX4_goesBy_79 : decode cX4_goesBy 79 = .ok (.iload_n 1, 1) := by decide +kernel
theorem dX4_goesBy_80 : decode cX4_goesBy 80 = .ok (.iconst 5, 1) := by decide +kernel
theorem dX4_goesBy_81 : decode cX4_goesBy 81 = .ok (.if_icmp .ge 75, 3) := by decide +kernel
theorem dX4_goesBy_84 : decode cX4_goesBy 84 = .ok (.aload_n 0, 1) := by decide +kernel
theorem dX4_goesBy_85 : decode cX4_goesBy 85 = .ok (.getfield 13, 3) := by decide +kernel
theorem dX4_goesBy_88 : decode cX4_goesBy 88 = .ok (.iload_n 2, 1) := by decide +kernel
theorem dX4_goesBy_89 : decode cX4_goesBy 89 = .ok (.iaload, 1) := by decide +kernel
theorem dX4_goesBy_90 : decode cX4_goesBy 90 = .ok (.ifCond .ne 60, 3) := by decide +kernel
theorem dX4_goesBy_93 : decode cX4_goesBy 93 = .ok (.aload_n 0, 1) := by decide +kernel
theorem dX4_goesBy_94 : decode cX4_goesBy 94 = .ok (.getfield 23, 3) := by decide +kernel
theorem dX4_goesBy_97 : decode cX4_goesBy 97 = .ok (.iload_n 2, 1) := by decide +kernel
theorem dX4_goesBy_98 : decode cX4_goesBy 98 = .ok (.daload, 1) := by decide +kernel
theorem dX4_goesBy_99 : decode cX4_goesBy 99 = .ok (.aload_n 0, 1) := by decide +kernel
theorem dX4_goesBy_100 : decode cX4_goesBy 100 = .ok (.getfield 27, 3) := by decide +kernel
theorem dX4_goesBy_103 : decode cX4_goesBy 103 = .ok (.iload_n 2, 1) := by decide +kernel
theorem dX4_goesBy_104 : decode cX4_goesBy 104 = .ok (.daload, 1) := by decide +kernel
theorem dX4_goesBy_105 : decode cX4_goesBy 105 = .ok (.dcmp .g, 1) := by decide +kernel
theorem dX4_goesBy_106 : decode cX4_goesBy 106 = .ok (.ifCond .ge 44, 3) := by decide +kernel
theorem dX4_goesBy_109 : decode cX4_goesBy 109 = .ok (.aload_n 0, 1) := by decide +kernel
theorem dX4_goesBy_110 : decode cX4_goesBy 110 = .ok (.getfield 23, 3) := by decide +kernel
theorem dX4_goesBy_113 : decode cX4_goesBy 113 = .ok (.iload_n 2, 1) := by decide +kernel
theorem dX4_goesBy_114 : decode cX4_goesBy 114 = .ok (.daload, 1) := by decide +kernel
theorem dX4_goesBy_115 : decode cX4_goesBy 115 = .ok (.ldc2_w 110, 3) := by decide +kernel
theorem dX4_goesBy_118 : decode cX4_goesBy 118 = .ok (.dadd, 1) := by decide +kernel
theorem dX4_goesBy_119 : decode cX4_goesBy 119 = .ok (.dstore_n 3, 1) := by decide +kernel
theorem dX4_goesBy_120 : decode cX4_goesBy 120 = .ok (.aload_n 0, 1) := by decide +kernel
theorem dX4_goesBy_121 : decode cX4_goesBy 121 = .ok (.getfield 23, 3) := by decide +kernel
theorem dX4_goesBy_124 : decode cX4_goesBy 124 = .ok (.iload_n 2, 1) := by decide +kernel
theorem dX4_goesBy_125 : decode cX4_goesBy 125 = .ok (.dload_n 3, 1) := by decide +kernel
theorem dX4_goesBy_126 : decode cX4_goesBy 126 = .ok (.aload_n 0, 1) := by decide +kernel
theorem dX4_goesBy_127 : decode cX4_goesBy 127 = .ok (.getfield 27, 3) := by decide +kernel
theorem dX4_goesBy_130 : decode cX4_goesBy 130 = .ok (.iload_n 2, 1) := by decide +kernel
theorem dX4_goesBy_131 : decode cX4_goesBy 131 = .ok (.daload, 1) := by decide +kernel
theorem dX4_goesBy_132 : decode cX4_goesBy 132 = .ok (.dcmp .g, 1) := by decide +kernel
theorem dX4_goesBy_133 : decode cX4_goesBy 133 = .ok (.ifCond .ge 7, 3) := by decide +kernel
theorem dX4_goesBy_136 : decode cX4_goesBy 136 = .ok (.dload_n 3, 1) := by decide +kernel
theorem dX4_goesBy_137 : decode cX4_goesBy 137 = .ok (.goto 9, 3) := by decide +kernel
theorem dX4_goesBy_140 : decode cX4_goesBy 140 = .ok (.aload_n 0, 1) := by decide +kernel
theorem dX4_goesBy_141 : decode cX4_goesBy 141 = .ok (.getfield 27, 3) := by decide +kernel
theorem dX4_goesBy_144 : decode cX4_goesBy 144 = .ok (.iload_n 2, 1) := by decide +kernel
theorem dX4_goesBy_145 : decode cX4_goesBy 145 = .ok (.daload, 1) := by decide +kernel
theorem dX4_goesBy_146 : decode cX4_goesBy 146 = .ok (.dastore, 1) := by decide +kernel
theorem dX4_goesBy_147 : decode cX4_goesBy 147 = .ok (.iinc 1 1, 3) := by decide +kernel
theorem dX4_goesBy_150 : decode cX4_goesBy 150 = .ok (.iinc 2 1, 3) := by decide +kernel
theorem dX4_goesBy_153 : decode cX4_goesBy 153 = .ok (.goto (-82), 3) := by decide +kernel
theorem dX4_goesBy_156 : decode cX4_goesBy 156 = .ok (.aload_n 0, 1) := by decide +kernel
theorem dX4_goesBy_157 : decode cX4_goesBy 157 = .ok (.dup, 1) := by decide +kernel
theorem dX4_goesBy_158 : decode cX4_goesBy 158 = .ok (.getfield 82, 3) := by decide +kernel
theorem dX4_goesBy_161 : decode cX4_goesBy 161 = .ok (.iconst 1, 1) := by decide +kernel
theorem dX4_goesBy_162 : decode cX4_goesBy 162 = .ok (.iadd, 1) := by decide +kernel
theorem dX4_goesBy_163 : decode cX4_goesBy 163 = .ok (.putfield 82, 3) := by decide +kernel
theorem dX4_goesBy_166 : decode cX4_goesBy 166 = .ok (.iconst 0, 1) := by decide +kernel
theorem dX4_goesBy_167 : decode cX4_goesBy 167 = .ok (.istore_n 2, 1) := by decide +kernel
theorem dX4_goesBy_168 : decode cX4_goesBy 168 = .ok (.iconst 0, 1) := by decide +kernel
theorem dX4_goesBy_169 : decode cX4_goesBy 169 = .ok (.istore_n 3, 1) := by decide +kernel
theorem dX4_goesBy_170 : decode cX4_goesBy 170 = .ok (.iload_n 3, 1) := by decide +kernel
theorem dX4_goesBy_171 : decode cX4_goesBy 171 = .ok (.aload_n 0, 1) := by decide +kernel
theorem dX4_goesBy_172 : decode cX4_goesBy 172 = .ok (.getfield 56, 3) := by decide +kernel
theorem dX4_goesBy_175 : decode cX4_goesBy 175 = .ok (.if_icmp .ge 83, 3) := by decide +kernel
theorem dX4_goesBy_178 : decode cX4_goesBy 178 = .ok (.aload_n 0, 1) := by decide +kernel
theorem dX4_goesBy_179 : decode cX4_goesBy 179 = .ok (.getfield 33, 3) := by decide +kernel
theorem dX4_goesBy_182 : decode cX4_goesBy 182 = .ok (.iload_n 3, 1) := by decide +kernel
theorem dX4_goesBy_183 : decode cX4_goesBy 183 = .ok (.iaload, 1) := by decide +kernel
theorem dX4_goesBy_184 : decode cX4_goesBy 184 = .ok (.iconst (-1), 1) := by decide +kernel
theorem dX4_goesBy_185 : decode cX4_goesBy 185 = .ok (.if_icmp .eq 67, 3) := by decide +kernel
theorem dX4_goesBy_188 : decode cX4_goesBy 188 = .ok (.iload_n 2, 1) := by decide +kernel
theorem dX4_goesBy_189 : decode cX4_goesBy 189 = .ok (.aload_n 0, 1) := by decide +kernel
theorem dX4_goesBy_190 : decode cX4_goesBy 190 = .ok (.iconst 2, 1) := by decide +kernel
theorem dX4_goesBy_191 : decode cX4_goesBy 191 = .ok (.iload_n 3, 1) := by decide +kernel
theorem dX4_goesBy_192 : decode cX4_goesBy 192 = .ok (.imul, 1) := by decide +kernel
theorem dX4_goesBy_193 : decode cX4_goesBy 193 = .ok (.aload_n 0, 1) := by decide +kernel
theorem dX4_goesBy_194 : decode cX4_goesBy 194 = .ok (.getfield 82, 3) := by decide +kernel
theorem dX4_goesBy_197 : decode cX4_goesBy 197 = .ok (.aload_n 0, 1) := by decide +kernel
theorem dX4_goesBy_198 : decode cX4_goesBy 198 = .ok (.getfield 36, 3) := by decide +kernel
theorem dX4_goesBy_201 : decode cX4_goesBy 201 = .ok (.iload_n 3, 1) := by decide +kernel
theorem dX4_goesBy_202 : decode cX4_goesBy 202 = .ok (.iaload, 1) := by decide +kernel
theorem dX4_goesBy_203 : decode cX4_goesBy 203 = .ok (.isub, 1) := by decide +kernel
theorem dX4_goesBy_204 : decode cX4_goesBy 204 = .ok (.bipush 9, 2) := by decide +kernel
theorem dX4_goesBy_206 : decode cX4_goesBy 206 = .ok (.if_icmp .le 7, 3) := by decide +kernel
theorem dX4_goesBy_209 : decode cX4_goesBy 209 = .ok (.iconst 1, 1) := by decide +kernel
theorem dX4_goesBy_210 : decode cX4_goesBy 210 = .ok (.goto 4, 3) := by decide +kernel
theorem dX4_goesBy_213 : decode cX4_goesBy 213 = .ok (.iconst 0, 1) := by decide +kernel
theorem dX4_goesBy_214 : decode cX4_goesBy 214 = .ok (.invokevirtual 112, 3) := by decide +kernel
theorem dX4_goesBy_217 : decode cX4_goesBy 217 = .ok (.iadd, 1) := by decide +kernel
theorem dX4_goesBy_218 : decode cX4_goesBy 218 = .ok (.istore_n 2, 1) := by decide +kernel
theorem dX4_goesBy_219 : decode cX4_goesBy 219 = .ok (.iload_n 2, 1) := by decide +kernel
theorem dX4_goesBy_220 : decode cX4_goesBy 220 = .ok (.aload_n 0, 1) := by decide +kernel
theorem dX4_goesBy_221 : decode cX4_goesBy 221 = .ok (.iconst 2, 1) := by decide +kernel
theorem dX4_goesBy_222 : decode cX4_goesBy 222 = .ok (.iload_n 3, 1) := by decide +kernel
theorem dX4_goesBy_223 : decode cX4_goesBy 223 = .ok (.imul, 1) := by decide +kernel
theorem dX4_goesBy_224 : decode cX4_goesBy 224 = .ok (.iconst 1, 1) := by decide +kernel
theorem dX4_goesBy_225 : decode cX4_goesBy 225 = .ok (.iadd, 1) := by decide +kernel
theorem dX4_goesBy_226 : decode cX4_goesBy 226 = .ok (.aload_n 0, 1) := by decide +kernel
theorem dX4_goesBy_227 : decode cX4_goesBy 227 = .ok (.getfield 23, 3) := by decide +kernel
theorem dX4_goesBy_230 : decode cX4_goesBy 230 = .ok (.aload_n 0, 1) := by decide +kernel
theorem dX4_goesBy_231 : decode cX4_goesBy 231 = .ok (.getfield 33, 3) := by decide +kernel
theorem dX4_goesBy_234 : decode cX4_goesBy 234 = .ok (.iload_n 3, 1) := by decide +kernel
theorem dX4_goesBy_235 : decode cX4_goesBy 235 = .ok (.iaload, 1) := by decide +kernel
theorem dX4_goesBy_236 : decode cX4_goesBy 236 = .ok (.daload, 1) := by decide +kernel
theorem dX4_goesBy_237 : decode cX4_goesBy 237 = .ok (.dconst 0, 1) := by decide +kernel
theorem dX4_goesBy_238 : decode cX4_goesBy 238 = .ok (.dcmp .l, 1) := by decide +kernel
theorem dX4_goesBy_239 : decode cX4_goesBy 239 = .ok (.ifCond .ne 7, 3) := by decide +kernel
theorem dX4_goesBy_242 : decode cX4_goesBy 242 = .ok (.iconst 1, 1) := by decide +kernel
theorem dX4_goesBy_243 : decode cX4_goesBy 243 = .ok (.goto 4, 3) := by decide +kernel
theorem dX4_goesBy_246 : decode cX4_goesBy 246 = .ok (.iconst 0, 1) := by decide +kernel
theorem dX4_goesBy_247 : decode cX4_goesBy 247 = .ok (.invokevirtual 112, 3) := by decide +kernel
theorem dX4_goesBy_250 : decode cX4_goesBy 250 = .ok (.iadd, 1) := by decide +kernel
theorem dX4_goesBy_251 : decode cX4_goesBy 251 = .ok (.istore_n 2, 1) := by decide +kernel
theorem dX4_goesBy_252 : decode cX4_goesBy 252 = .ok (.iinc 3 1, 3) := by decide +kernel
theorem dX4_goesBy_255 : decode cX4_goesBy 255 = .ok (.goto (-85), 3) := by decide +kernel
theorem dX4_goesBy_258 : decode cX4_goesBy 258 = .ok (.iload_n 2, 1) := by decide +kernel
theorem dX4_goesBy_259 : decode cX4_goesBy 259 = .ok (.ireturn, 1) := by decide +kernel
set_option maxRecDepth 20000 in
theorem ggX4_hours_X4_in : GoodIn wsX4_hours wsX4_in := goodIn_r _ [5] (by decide +kernel) (by decide +kernel)
set_option maxRecDepth 20000 in
theorem gX4_hours_X4_in : GoodIn wsX4_hours (va_wsS RX4 52 yX4_in wsX4_in) := goodIn_app (goodIn_of _ (by decide +kernel)) ggX4_hours_X4_in
set_option maxRecDepth 20000 in
theorem ggX4_hours_X4_goesBy : GoodIn wsX4_hours wsX4_goesBy := goodIn_r _ [9, 10, 11, 12, 13, 14, 15, 16, 17, 18, 19, 20, 21, 22, 23, 4, 24, 25, 26, 27, 28, 29, 30, 31, 32, 33, 34, 35, 36, 37, 38, 39, 40, 41, 42, 43, 44, 45, 46, 47] (by decide +kernel) (by decide +kernel)
set_option maxRecDepth 20000 in
theorem gX4_hours_X4_goesBy : GoodIn wsX4_hours (wsV RX4 116 RX4 yX4_goesBy wsX4_goesBy) := goodIn_app (goodIn_of _ (by decide +kernel)) ggX4_hours_X4_goesBy
theorem dX4_hours_0 : decode cX4_hours 0 = .ok (.aload_n 0, 1) := by decide +kernel
theorem dX4_hours_1 : decode cX4_hours 1 = .ok (.iload_n 1, 1) := by decide +kernel
theorem dX4_hours_2 : decode cX4_hours 2 = .ok (.iconst 1, 1) := by decide +kernel
theorem dX4_hours_3 : decode cX4_hours 3 = .ok (.bipush 100, 2) := by decide +kernel
theorem dX4_hours_5 : decode cX4_hours 5 = .ok (.invokestatic 52, 3) := by decide +kernel
theorem dX4_hours_8 : decode cX4_hours 8 = .ok (.ifCond .eq 7, 3) := by decide +kernel
theorem dX4_hours_11 : decode cX4_hours 11 = .ok (.iconst 0, 1) := by decide +kernel
theorem dX4_hours_12 : decode cX4_hours 12 = .ok (.goto 4, 3) := by decide +kernel
theorem dX4_hours_15 : decode cX4_hours 15 = .ok (.iconst 1, 1) := by decide +kernel
theorem dX4_hours_16 : decode cX4_hours 16 = .ok (.putfield 45, 3) := by decide +kernel
theorem dX4_hours_19 : decode cX4_hours 19 = .ok (.iconst 0, 1) := by decide +kernel
theorem dX4_hours_20 : decode cX4_hours 20 = .ok (.istore_n 2, 1) := by decide +kernel
theorem dX4_hours_21 : decode cX4_hours 21 = .ok (.iconst 0, 1) := by decide +kernel
theorem dX4_hours_22 : decode cX4_hours 22 = .ok (.istore_n 3, 1) := by decide +kernel
theorem dX4_hours_23 : decode cX4_hours 23 = .ok (.iload_n 3, 1) := by decide +kernel
theorem dX4_hours_24 : decode cX4_hours 24 = .ok (.iload_n 1, 1) := by decide +kernel
theorem dX4_hours_25 : decode cX4_hours 25 = .ok (.if_icmp .ge 23, 3) := by decide +kernel
theorem dX4_hours_28 : decode cX4_hours 28 = .ok (.aload_n 0, 1) := by decide +kernel
theorem dX4_hours_29 : decode cX4_hours 29 = .ok (.getfield 45, 3) := by decide +kernel
theorem dX4_hours_32 : decode cX4_hours 32 = .ok (.ifCond .ne 16, 3) := by decide +kernel
theorem dX4_hours_35 : decode cX4_hours 35 = .ok (.iload_n 2, 1) := by decide +kernel
theorem dX4_hours_36 : decode cX4_hours 36 = .ok (.aload_n 0, 1) := by decide +kernel
theorem dX4_hours_37 : decode cX4_hours 37 = .ok (.invokevirtual 116, 3) := by decide +kernel
theorem dX4_hours_40 : decode cX4_hours 40 = .ok (.iadd, 1) := by decide +kernel
theorem dX4_hours_41 : decode cX4_hours 41 = .ok (.istore_n 2, 1) := by decide +kernel
theorem dX4_hours_42 : decode cX4_hours 42 = .ok (.iinc 3 1, 3) := by decide +kernel
theorem dX4_hours_45 : decode cX4_hours 45 = .ok (.goto (-22), 3) := by decide +kernel
theorem dX4_hours_48 : decode cX4_hours 48 = .ok (.iload_n 2, 1) := by decide +kernel
theorem dX4_hours_49 : decode cX4_hours 49 = .ok (.ireturn, 1) := by decide +kernel
theorem dX4_below_0 : decode cX4_below 0 = .ok (.aload_n 0, 1) := by decide +kernel
theorem dX4_below_1 : decode cX4_below 1 = .ok (.iconst 0, 1) := by decide +kernel
theorem dX4_below_2 : decode cX4_below 2 = .ok (.putfield 45, 3) := by decide +kernel
theorem dX4_below_5 : decode cX4_below 5 = .ok (.aload_n 0, 1) := by decide +kernel
theorem dX4_below_6 : decode cX4_below 6 = .ok (.getfield 85, 3) := by decide +kernel
theorem dX4_below_9 : decode cX4_below 9 = .ok (.ireturn, 1) := by decide +kernel
set_option maxRecDepth 20000 in
theorem ggX4_board_X4_in : GoodIn wsX4_board wsX4_in := goodIn_r _ [7] (by decide +kernel) (by decide +kernel)
set_option maxRecDepth 20000 in
theorem gX4_board_X4_in : GoodIn wsX4_board (va_wsS RX4 52 yX4_in wsX4_in) := goodIn_app (goodIn_of _ (by decide +kernel)) ggX4_board_X4_in
theorem dX4_board_0 : decode cX4_board 0 = .ok (.aload_n 0, 1) := by decide +kernel
theorem dX4_board_1 : decode cX4_board 1 = .ok (.iconst 0, 1) := by decide +kernel
theorem dX4_board_2 : decode cX4_board 2 = .ok (.putfield 45, 3) := by decide +kernel
theorem dX4_board_5 : decode cX4_board 5 = .ok (.iload_n 1, 1) := by decide +kernel
theorem dX4_board_6 : decode cX4_board 6 = .ok (.iconst 0, 1) := by decide +kernel
theorem dX4_board_7 : decode cX4_board 7 = .ok (.aload_n 0, 1) := by decide +kernel
theorem dX4_board_8 : decode cX4_board 8 = .ok (.getfield 85, 3) := by decide +kernel
theorem dX4_board_11 : decode cX4_board 11 = .ok (.iconst 1, 1) := by decide +kernel
theorem dX4_board_12 : decode cX4_board 12 = .ok (.isub, 1) := by decide +kernel
theorem dX4_board_13 : decode cX4_board 13 = .ok (.invokestatic 52, 3) := by decide +kernel
theorem dX4_board_16 : decode cX4_board 16 = .ok (.ifCond .eq 12, 3) := by decide +kernel
theorem dX4_board_19 : decode cX4_board 19 = .ok (.aload_n 0, 1) := by decide +kernel
theorem dX4_board_20 : decode cX4_board 20 = .ok (.getfield 39, 3) := by decide +kernel
theorem dX4_board_23 : decode cX4_board 23 = .ok (.iload_n 1, 1) := by decide +kernel
theorem dX4_board_24 : decode cX4_board 24 = .ok (.iaload, 1) := by decide +kernel
theorem dX4_board_25 : decode cX4_board 25 = .ok (.goto 4, 3) := by decide +kernel
theorem dX4_board_28 : decode cX4_board 28 = .ok (.iconst (-1), 1) := by decide +kernel
theorem dX4_board_29 : decode cX4_board 29 = .ok (.ireturn, 1) := by decide +kernel
set_option maxRecDepth 20000 in
theorem ggX4_lampOf_X4_isMiner : GoodIn wsX4_lampOf wsX4_isMiner := goodIn_r _ [7, 8, 9, 10, 6, 11, 12, 13, 14, 15, 16, 17, 18, 19, 20, 21, 22, 23, 24, 25, 26, 27, 28] (by decide +kernel) (by decide +kernel)
set_option maxRecDepth 20000 in
theorem gX4_lampOf_X4_isMiner : GoodIn wsX4_lampOf (wsV RX4 75 RX4 yX4_isMiner wsX4_isMiner) := goodIn_app (goodIn_of _ (by decide +kernel)) ggX4_lampOf_X4_isMiner
theorem dX4_lampOf_0 : decode cX4_lampOf 0 = .ok (.aload_n 0, 1) := by decide +kernel
theorem dX4_lampOf_1 : decode cX4_lampOf 1 = .ok (.aload_n 0, 1) := by decide +kernel
theorem dX4_lampOf_2 : decode cX4_lampOf 2 = .ok (.iload_n 1, 1) := by decide +kernel
theorem dX4_lampOf_3 : decode cX4_lampOf 3 = .ok (.invokevirtual 75, 3) := by decide +kernel
theorem dX4_lampOf_6 : decode cX4_lampOf 6 = .ok (.ifCond .eq 7, 3) := by decide +kernel
theorem dX4_lampOf_9 : decode cX4_lampOf 9 = .ok (.iconst 0, 1) := by decide +kernel
theorem dX4_lampOf_10 : decode cX4_lampOf 10 = .ok (.goto 4, 3) := by decide +kernel
theorem dX4_lampOf_13 : decode cX4_lampOf 13 = .ok (.iconst 1, 1) := by decide +kernel
theorem dX4_lampOf_14 : decode cX4_lampOf 14 = .ok (.putfield 45, 3) := by decide +kernel
theorem dX4_lampOf_17 : decode cX4_lampOf 17 = .ok (.aload_n 0, 1) := by decide +kernel
theorem dX4_lampOf_18 : decode cX4_lampOf 18 = .ok (.getfield 45, 3) := by decide +kernel
theorem dX4_lampOf_21 : decode cX4_lampOf 21 = .ok (.ifCond .le 7, 3) := by decide +kernel
theorem dX4_lampOf_24 : decode cX4_lampOf 24 = .ok (.iconst 0, 1) := by decide +kernel
theorem dX4_lampOf_25 : decode cX4_lampOf 25 = .ok (.goto 9, 3) := by decide +kernel
theorem dX4_lampOf_28 : decode cX4_lampOf 28 = .ok (.aload_n 0, 1) := by decide +kernel
theorem dX4_lampOf_29 : decode cX4_lampOf 29 = .ok (.getfield 33, 3) := by decide +kernel
theorem dX4_lampOf_32 : decode cX4_lampOf 32 = .ok (.iload_n 1, 1) := by decide +kernel
theorem dX4_lampOf_33 : decode cX4_lampOf 33 = .ok (.iaload, 1) := by decide +kernel
theorem dX4_lampOf_34 : decode cX4_lampOf 34 = .ok (.ireturn, 1) := by decide +kernel
set_option maxRecDepth 20000 in
theorem ggX4_hoursBelow_X4_isMiner : GoodIn wsX4_hoursBelow wsX4_isMiner := goodIn_r _ [9, 10, 11, 12, 8, 13, 14, 15, 16, 17, 18, 19, 20, 21, 22, 23, 24, 25, 26, 27, 28, 29, 30] (by decide +kernel) (by decide +kernel)
set_option maxRecDepth 20000 in
theorem gX4_hoursBelow_X4_isMiner : GoodIn wsX4_hoursBelow (wsV RX4 75 RX4 yX4_isMiner wsX4_isMiner) := goodIn_app (goodIn_of _ (by decide +kernel)) ggX4_hoursBelow_X4_isMiner
theorem dX4_hoursBelow_0 : decode cX4_hoursBelow 0 = .ok (.aload_n 0, 1) := by decide +kernel
theorem dX4_hoursBelow_1 : decode cX4_hoursBelow 1 = .ok (.aload_n 0, 1) := by decide +kernel
theorem dX4_hoursBelow_2 : decode cX4_hoursBelow 2 = .ok (.iload_n 1, 1) := by decide +kernel
theorem dX4_hoursBelow_3 : decode cX4_hoursBelow 3 = .ok (.invokevirtual 75, 3) := by decide +kernel
theorem dX4_hoursBelow_6 : decode cX4_hoursBelow 6 = .ok (.ifCond .eq 7, 3) := by decide +kernel
theorem dX4_hoursBelow_9 : decode cX4_hoursBelow 9 = .ok (.iconst 0, 1) := by decide +kernel
theorem dX4_hoursBelow_10 : decode cX4_hoursBelow 10 = .ok (.goto 4, 3) := by decide +kernel
theorem dX4_hoursBelow_13 : decode cX4_hoursBelow 13 = .ok (.iconst 1, 1) := by decide +kernel
theorem dX4_hoursBelow_14 : decode cX4_hoursBelow 14 = .ok (.putfield 45, 3) := by decide +kernel
theorem dX4_hoursBelow_17 : decode cX4_hoursBelow 17 = .ok (.aload_n 0, 1) := by decide +kernel
theorem dX4_hoursBelow_18 : decode cX4_hoursBelow 18 = .ok (.getfield 45, 3) := by decide +kernel
theorem dX4_hoursBelow_21 : decode cX4_hoursBelow 21 = .ok (.ifCond .le 7, 3) := by decide +kernel
theorem dX4_hoursBelow_24 : decode cX4_hoursBelow 24 = .ok (.iconst 0, 1) := by decide +kernel
theorem dX4_hoursBelow_25 : decode cX4_hoursBelow 25 = .ok (.goto 28, 3) := by decide +kernel
theorem dX4_hoursBelow_28 : decode cX4_hoursBelow 28 = .ok (.aload_n 0, 1) := by decide +kernel
theorem dX4_hoursBelow_29 : decode cX4_hoursBelow 29 = .ok (.getfield 33, 3) := by decide +kernel
theorem dX4_hoursBelow_32 : decode cX4_hoursBelow 32 = .ok (.iload_n 1, 1) := by decide +kernel
theorem dX4_hoursBelow_33 : decode cX4_hoursBelow 33 = .ok (.iaload, 1) := by decide +kernel
theorem dX4_hoursBelow_34 : decode cX4_hoursBelow 34 = .ok (.iconst (-1), 1) := by decide +kernel
theorem dX4_hoursBelow_35 : decode cX4_hoursBelow 35 = .ok (.if_icmp .ne 7, 3) := by decide +kernel
theorem dX4_hoursBelow_38 : decode cX4_hoursBelow 38 = .ok (.iconst (-1), 1) := by decide +kernel
theorem dX4_hoursBelow_39 : decode cX4_hoursBelow 39 = .ok (.goto 14, 3) := by decide +kernel
theorem dX4_hoursBelow_42 : decode cX4_hoursBelow 42 = .ok (.aload_n 0, 1) := by decide +kernel
theorem dX4_hoursBelow_43 : decode cX4_hoursBelow 43 = .ok (.getfield 82, 3) := by decide +kernel
theorem dX4_hoursBelow_46 : decode cX4_hoursBelow 46 = .ok (.aload_n 0, 1) := by decide +kernel
theorem dX4_hoursBelow_47 : decode cX4_hoursBelow 47 = .ok (.getfield 36, 3) := by decide +kernel
theorem dX4_hoursBelow_50 : decode cX4_hoursBelow 50 = .ok (.iload_n 1, 1) := by decide +kernel
theorem dX4_hoursBelow_51 : decode cX4_hoursBelow 51 = .ok (.iaload, 1) := by decide +kernel
theorem dX4_hoursBelow_52 : decode cX4_hoursBelow 52 = .ok (.isub, 1) := by decide +kernel
theorem dX4_hoursBelow_53 : decode cX4_hoursBelow 53 = .ok (.ireturn, 1) := by decide +kernel
set_option maxRecDepth 20000 in
theorem ggX4_placeOf_X4_isLamp : GoodIn wsX4_placeOf wsX4_isLamp := goodIn_r _ [7, 8, 9, 10, 6, 11, 12, 13, 14, 15, 16, 17, 18, 19, 20, 21, 22, 23, 24, 25, 26, 27, 28] (by decide +kernel) (by decide +kernel)
set_option maxRecDepth 20000 in
theorem gX4_placeOf_X4_isLamp : GoodIn wsX4_placeOf (wsV RX4 99 RX4 yX4_isLamp wsX4_isLamp) := goodIn_app (goodIn_of _ (by decide +kernel)) ggX4_placeOf_X4_isLamp
theorem dX4_placeOf_0 : decode cX4_placeOf 0 = .ok (.aload_n 0, 1) := by decide +kernel
theorem dX4_placeOf_1 : decode cX4_placeOf 1 = .ok (.aload_n 0, 1) := by decide +kernel
theorem dX4_placeOf_2 : decode cX4_placeOf 2 = .ok (.iload_n 1, 1) := by decide +kernel
theorem dX4_placeOf_3 : decode cX4_placeOf 3 = .ok (.invokevirtual 99, 3) := by decide +kernel
theorem dX4_placeOf_6 : decode cX4_placeOf 6 = .ok (.ifCond .eq 7, 3) := by decide +kernel
theorem dX4_placeOf_9 : decode cX4_placeOf 9 = .ok (.iconst 0, 1) := by decide +kernel
theorem dX4_placeOf_10 : decode cX4_placeOf 10 = .ok (.goto 4, 3) := by decide +kernel
theorem dX4_placeOf_13 : decode cX4_placeOf 13 = .ok (.iconst 1, 1) := by decide +kernel
theorem dX4_placeOf_14 : decode cX4_placeOf 14 = .ok (.putfield 45, 3) := by decide +kernel
theorem dX4_placeOf_17 : decode cX4_placeOf 17 = .ok (.aload_n 0, 1) := by decide +kernel
theorem dX4_placeOf_18 : decode cX4_placeOf 18 = .ok (.getfield 45, 3) := by decide +kernel
theorem dX4_placeOf_21 : decode cX4_placeOf 21 = .ok (.ifCond .le 7, 3) := by decide +kernel
theorem dX4_placeOf_24 : decode cX4_placeOf 24 = .ok (.iconst 0, 1) := by decide +kernel
theorem dX4_placeOf_25 : decode cX4_placeOf 25 = .ok (.goto 9, 3) := by decide +kernel
theorem dX4_placeOf_28 : decode cX4_placeOf 28 = .ok (.aload_n 0, 1) := by decide +kernel
theorem dX4_placeOf_29 : decode cX4_placeOf 29 = .ok (.getfield 13, 3) := by decide +kernel
theorem dX4_placeOf_32 : decode cX4_placeOf 32 = .ok (.iload_n 1, 1) := by decide +kernel
theorem dX4_placeOf_33 : decode cX4_placeOf 33 = .ok (.iaload, 1) := by decide +kernel
theorem dX4_placeOf_34 : decode cX4_placeOf 34 = .ok (.ireturn, 1) := by decide +kernel
set_option maxRecDepth 20000 in
theorem ggX4_chargeOf_X4_isLamp : GoodIn wsX4_chargeOf wsX4_isLamp := goodIn_r _ [7, 8, 9, 10, 6, 11, 12, 13, 14, 15, 16, 17, 18, 19, 20, 21, 22, 23, 24, 25, 26, 27, 28] (by decide +kernel) (by decide +kernel)
set_option maxRecDepth 20000 in
theorem gX4_chargeOf_X4_isLamp : GoodIn wsX4_chargeOf (wsV RX4 99 RX4 yX4_isLamp wsX4_isLamp) := goodIn_app (goodIn_of _ (by decide +kernel)) ggX4_chargeOf_X4_isLamp
theorem dX4_chargeOf_0 : decode cX4_chargeOf 0 = .ok (.aload_n 0, 1) := by decide +kernel
theorem dX4_chargeOf_1 : decode cX4_chargeOf 1 = .ok (.aload_n 0, 1) := by decide +kernel
theorem dX4_chargeOf_2 : decode cX4_chargeOf 2 = .ok (.iload_n 1, 1) := by decide +kernel
theorem dX4_chargeOf_3 : decode cX4_chargeOf 3 = .ok (.invokevirtual 99, 3) := by decide +kernel
theorem dX4_chargeOf_6 : decode cX4_chargeOf 6 = .ok (.ifCond .eq 7, 3) := by decide +kernel
theorem dX4_chargeOf_9 : decode cX4_chargeOf 9 = .ok (.iconst 0, 1) := by decide +kernel
theorem dX4_chargeOf_10 : decode cX4_chargeOf 10 = .ok (.goto 4, 3) := by decide +kernel
theorem dX4_chargeOf_13 : decode cX4_chargeOf 13 = .ok (.iconst 1, 1) := by decide +kernel
theorem dX4_chargeOf_14 : decode cX4_chargeOf 14 = .ok (.putfield 45, 3) := by decide +kernel
theorem dX4_chargeOf_17 : decode cX4_chargeOf 17 = .ok (.aload_n 0, 1) := by decide +kernel
theorem dX4_chargeOf_18 : decode cX4_chargeOf 18 = .ok (.getfield 45, 3) := by decide +kernel
theorem dX4_chargeOf_21 : decode cX4_chargeOf 21 = .ok (.ifCond .le 7, 3) := by decide +kernel
theorem dX4_chargeOf_24 : decode cX4_chargeOf 24 = .ok (.dconst 0, 1) := by decide +kernel
theorem dX4_chargeOf_25 : decode cX4_chargeOf 25 = .ok (.goto 9, 3) := by decide +kernel
theorem dX4_chargeOf_28 : decode cX4_chargeOf 28 = .ok (.aload_n 0, 1) := by decide +kernel
theorem dX4_chargeOf_29 : decode cX4_chargeOf 29 = .ok (.getfield 23, 3) := by decide +kernel
theorem dX4_chargeOf_32 : decode cX4_chargeOf 32 = .ok (.iload_n 1, 1) := by decide +kernel
theorem dX4_chargeOf_33 : decode cX4_chargeOf 33 = .ok (.daload, 1) := by decide +kernel
theorem dX4_chargeOf_34 : decode cX4_chargeOf 34 = .ok (.dreturn, 1) := by decide +kernel
set_option maxRecDepth 20000 in
theorem ggX4_capacityOf_X4_isLamp : GoodIn wsX4_capacityOf wsX4_isLamp := goodIn_r _ [7, 8, 9, 10, 6, 11, 12, 13, 14, 15, 16, 17, 18, 19, 20, 21, 22, 23, 24, 25, 26, 27, 28] (by decide +kernel) (by decide +kernel)
set_option maxRecDepth 20000 in
theorem gX4_capacityOf_X4_isLamp : GoodIn wsX4_capacityOf (wsV RX4 99 RX4 yX4_isLamp wsX4_isLamp) := goodIn_app (goodIn_of _ (by decide +kernel)) ggX4_capacityOf_X4_isLamp
theorem dX4_capacityOf_0 : decode cX4_capacityOf 0 = .ok (.aload_n 0, 1) := by decide +kernel
theorem dX4_capacityOf_1 : decode cX4_capacityOf 1 = .ok (.aload_n 0, 1) := by decide +kernel
theorem dX4_capacityOf_2 : decode cX4_capacityOf 2 = .ok (.iload_n 1, 1) := by decide +kernel
theorem dX4_capacityOf_3 : decode cX4_capacityOf 3 = .ok (.invokevirtual 99, 3) := by decide +kernel
theorem dX4_capacityOf_6 : decode cX4_capacityOf 6 = .ok (.ifCond .eq 7, 3) := by decide +kernel
theorem dX4_capacityOf_9 : decode cX4_capacityOf 9 = .ok (.iconst 0, 1) := by decide +kernel
theorem dX4_capacityOf_10 : decode cX4_capacityOf 10 = .ok (.goto 4, 3) := by decide +kernel
theorem dX4_capacityOf_13 : decode cX4_capacityOf 13 = .ok (.iconst 1, 1) := by decide +kernel
theorem dX4_capacityOf_14 : decode cX4_capacityOf 14 = .ok (.putfield 45, 3) := by decide +kernel
theorem dX4_capacityOf_17 : decode cX4_capacityOf 17 = .ok (.aload_n 0, 1) := by decide +kernel
theorem dX4_capacityOf_18 : decode cX4_capacityOf 18 = .ok (.getfield 45, 3) := by decide +kernel
theorem dX4_capacityOf_21 : decode cX4_capacityOf 21 = .ok (.ifCond .le 7, 3) := by decide +kernel
theorem dX4_capacityOf_24 : decode cX4_capacityOf 24 = .ok (.dconst 0, 1) := by decide +kernel
theorem dX4_capacityOf_25 : decode cX4_capacityOf 25 = .ok (.goto 9, 3) := by decide +kernel
theorem dX4_capacityOf_28 : decode cX4_capacityOf 28 = .ok (.aload_n 0, 1) := by decide +kernel
theorem dX4_capacityOf_29 : decode cX4_capacityOf 29 = .ok (.getfield 27, 3) := by decide +kernel
theorem dX4_capacityOf_32 : decode cX4_capacityOf 32 = .ok (.iload_n 1, 1) := by decide +kernel
theorem dX4_capacityOf_33 : decode cX4_capacityOf 33 = .ok (.daload, 1) := by decide +kernel
theorem dX4_capacityOf_34 : decode cX4_capacityOf 34 = .ok (.dreturn, 1) := by decide +kernel
set_option maxRecDepth 20000 in
theorem ggX4_turnsOf_X4_isLamp : GoodIn wsX4_turnsOf wsX4_isLamp := goodIn_r _ [7, 8, 9, 10, 6, 11, 12, 13, 14, 15, 16, 17, 18, 19, 20, 21, 22, 23, 24, 25, 26, 27, 28] (by decide +kernel) (by decide +kernel)
set_option maxRecDepth 20000 in
theorem gX4_turnsOf_X4_isLamp : GoodIn wsX4_turnsOf (wsV RX4 99 RX4 yX4_isLamp wsX4_isLamp) := goodIn_app (goodIn_of _ (by decide +kernel)) ggX4_turnsOf_X4_isLamp
theorem dX4_turnsOf_0 : decode cX4_turnsOf 0 = .ok (.aload_n 0, 1) := by decide +kernel
theorem dX4_turnsOf_1 : decode cX4_turnsOf 1 = .ok (.aload_n 0, 1) := by decide +kernel
theorem dX4_turnsOf_2 : decode cX4_turnsOf 2 = .ok (.iload_n 1, 1) := by decide +kernel
theorem dX4_turnsOf_3 : decode cX4_turnsOf 3 = .ok (.invokevirtual 99, 3) := by decide +kernel
theorem dX4_turnsOf_6 : decode cX4_turnsOf 6 = .ok (.ifCond .eq 7, 3) := by decide +kernel
theorem dX4_turnsOf_9 : decode cX4_turnsOf 9 = .ok (.iconst 0, 1) := by decide +kernel
theorem dX4_turnsOf_10 : decode cX4_turnsOf 10 = .ok (.goto 4, 3) := by decide +kernel
theorem dX4_turnsOf_13 : decode cX4_turnsOf 13 = .ok (.iconst 1, 1) := by decide +kernel
theorem dX4_turnsOf_14 : decode cX4_turnsOf 14 = .ok (.putfield 45, 3) := by decide +kernel
theorem dX4_turnsOf_17 : decode cX4_turnsOf 17 = .ok (.aload_n 0, 1) := by decide +kernel
theorem dX4_turnsOf_18 : decode cX4_turnsOf 18 = .ok (.getfield 45, 3) := by decide +kernel
theorem dX4_turnsOf_21 : decode cX4_turnsOf 21 = .ok (.ifCond .le 7, 3) := by decide +kernel
theorem dX4_turnsOf_24 : decode cX4_turnsOf 24 = .ok (.iconst 0, 1) := by decide +kernel
theorem dX4_turnsOf_25 : decode cX4_turnsOf 25 = .ok (.goto 9, 3) := by decide +kernel
theorem dX4_turnsOf_28 : decode cX4_turnsOf 28 = .ok (.aload_n 0, 1) := by decide +kernel
theorem dX4_turnsOf_29 : decode cX4_turnsOf 29 = .ok (.getfield 16, 3) := by decide +kernel
theorem dX4_turnsOf_32 : decode cX4_turnsOf 32 = .ok (.iload_n 1, 1) := by decide +kernel
theorem dX4_turnsOf_33 : decode cX4_turnsOf 33 = .ok (.iaload, 1) := by decide +kernel
theorem dX4_turnsOf_34 : decode cX4_turnsOf 34 = .ok (.ireturn, 1) := by decide +kernel
set_option maxRecDepth 20000 in
theorem ggX4_ready_X4_in : GoodIn wsX4_ready wsX4_in := goodIn_r _ [7] (by decide +kernel) (by decide +kernel)
set_option maxRecDepth 20000 in
theorem gX4_ready_X4_in : GoodIn wsX4_ready (va_wsS RX4 52 yX4_in wsX4_in) := goodIn_app (goodIn_of _ (by decide +kernel)) ggX4_ready_X4_in
set_option maxRecDepth 20000 in
theorem ggX4_ready_X4_isReady : GoodIn wsX4_ready wsX4_isReady := goodIn_r _ [11, 12, 13, 14, 15, 16, 17, 18, 19, 20, 21, 22, 23, 24, 25, 26, 27, 28, 29, 30, 31] (by decide +kernel) (by decide +kernel)
set_option maxRecDepth 20000 in
theorem gX4_ready_X4_isReady : GoodIn wsX4_ready (wsV RX4 71 RX4 yX4_isReady wsX4_isReady) := goodIn_app (goodIn_of _ (by decide +kernel)) ggX4_ready_X4_isReady
theorem dX4_ready_0 : decode cX4_ready 0 = .ok (.aload_n 0, 1) := by decide +kernel
theorem dX4_ready_1 : decode cX4_ready 1 = .ok (.iload_n 1, 1) := by decide +kernel
theorem dX4_ready_2 : decode cX4_ready 2 = .ok (.iconst 0, 1) := by decide +kernel
theorem dX4_ready_3 : decode cX4_ready 3 = .ok (.iconst 2, 1) := by decide +kernel
theorem dX4_ready_4 : decode cX4_ready 4 = .ok (.invokestatic 52, 3) := by decide +kernel
theorem dX4_ready_7 : decode cX4_ready 7 = .ok (.ifCond .eq 7, 3) := by decide +kernel
theorem dX4_ready_10 : decode cX4_ready 10 = .ok (.iconst 0, 1) := by decide +kernel
theorem dX4_ready_11 : decode cX4_ready 11 = .ok (.goto 4, 3) := by decide +kernel
theorem dX4_ready_14 : decode cX4_ready 14 = .ok (.iconst 1, 1) := by decide +kernel
theorem dX4_ready_15 : decode cX4_ready 15 = .ok (.putfield 45, 3) := by decide +kernel
theorem dX4_ready_18 : decode cX4_ready 18 = .ok (.iconst 0, 1) := by decide +kernel
theorem dX4_ready_19 : decode cX4_ready 19 = .ok (.istore_n 2, 1) := by decide +kernel
theorem dX4_ready_20 : decode cX4_ready 20 = .ok (.iconst 0, 1) := by decide +kernel
theorem dX4_ready_21 : decode cX4_ready 21 = .ok (.istore_n 3, 1) := by decide +kernel
theorem dX4_ready_22 : decode cX4_ready 22 = .ok (.iload_n 3, 1) := by decide +kernel
theorem dX4_ready_23 : decode cX4_ready 23 = .ok (.aload_n 0, 1) := by decide +kernel
theorem dX4_ready_24 : decode cX4_ready 24 = .ok (.getfield 49, 3) := by decide +kernel
theorem dX4_ready_27 : decode cX4_ready 27 = .ok (.if_icmp .ge 42, 3) := by decide +kernel
theorem dX4_ready_30 : decode cX4_ready 30 = .ok (.aload_n 0, 1) := by decide +kernel
theorem dX4_ready_31 : decode cX4_ready 31 = .ok (.getfield 45, 3) := by decide +kernel
theorem dX4_ready_34 : decode cX4_ready 34 = .ok (.ifCond .ne 35, 3) := by decide +kernel
theorem dX4_ready_37 : decode cX4_ready 37 = .ok (.iload_n 2, 1) := by decide +kernel
theorem dX4_ready_38 : decode cX4_ready 38 = .ok (.aload_n 0, 1) := by decide +kernel
theorem dX4_ready_39 : decode cX4_ready 39 = .ok (.getfield 7, 3) := by decide +kernel
theorem dX4_ready_42 : decode cX4_ready 42 = .ok (.iload_n 3, 1) := by decide +kernel
theorem dX4_ready_43 : decode cX4_ready 43 = .ok (.iaload, 1) := by decide +kernel
theorem dX4_ready_44 : decode cX4_ready 44 = .ok (.iload_n 1, 1) := by decide +kernel
theorem dX4_ready_45 : decode cX4_ready 45 = .ok (.if_icmp .ne 15, 3) := by decide +kernel
theorem dX4_ready_48 : decode cX4_ready 48 = .ok (.aload_n 0, 1) := by decide +kernel
theorem dX4_ready_49 : decode cX4_ready 49 = .ok (.iload_n 3, 1) := by decide +kernel
theorem dX4_ready_50 : decode cX4_ready 50 = .ok (.invokevirtual 71, 3) := by decide +kernel
theorem dX4_ready_53 : decode cX4_ready 53 = .ok (.ifCond .eq 7, 3) := by decide +kernel
theorem dX4_ready_56 : decode cX4_ready 56 = .ok (.iconst 1, 1) := by decide +kernel
theorem dX4_ready_57 : decode cX4_ready 57 = .ok (.goto 4, 3) := by decide +kernel
theorem dX4_ready_60 : decode cX4_ready 60 = .ok (.iconst 0, 1) := by decide +kernel
theorem dX4_ready_61 : decode cX4_ready 61 = .ok (.iadd, 1) := by decide +kernel
theorem dX4_ready_62 : decode cX4_ready 62 = .ok (.istore_n 2, 1) := by decide +kernel
theorem dX4_ready_63 : decode cX4_ready 63 = .ok (.iinc 3 1, 3) := by decide +kernel
theorem dX4_ready_66 : decode cX4_ready 66 = .ok (.goto (-44), 3) := by decide +kernel
theorem dX4_ready_69 : decode cX4_ready 69 = .ok (.iload_n 2, 1) := by decide +kernel
theorem dX4_ready_70 : decode cX4_ready 70 = .ok (.ireturn, 1) := by decide +kernel
theorem dX4_spares_0 : decode cX4_spares 0 = .ok (.aload_n 0, 1) := by decide +kernel
theorem dX4_spares_1 : decode cX4_spares 1 = .ok (.iconst 0, 1) := by decide +kernel
theorem dX4_spares_2 : decode cX4_spares 2 = .ok (.putfield 45, 3) := by decide +kernel
theorem dX4_spares_5 : decode cX4_spares 5 = .ok (.iconst 0, 1) := by decide +kernel
theorem dX4_spares_6 : decode cX4_spares 6 = .ok (.istore_n 1, 1) := by decide +kernel
theorem dX4_spares_7 : decode cX4_spares 7 = .ok (.iconst 0, 1) := by decide +kernel
theorem dX4_spares_8 : decode cX4_spares 8 = .ok (.istore_n 2, 1) := by decide +kernel
theorem dX4_spares_9 : decode cX4_spares 9 = .ok (.iload_n 2, 1) := by decide +kernel
theorem dX4_spares_10 : decode cX4_spares 10 = .ok (.aload_n 0, 1) := by decide +kernel
theorem dX4_spares_11 : decode cX4_spares 11 = .ok (.getfield 85, 3) := by decide +kernel
theorem dX4_spares_14 : decode cX4_spares 14 = .ok (.if_icmp .ge 47, 3) := by decide +kernel
theorem dX4_spares_17 : decode cX4_spares 17 = .ok (.iload_n 1, 1) := by decide +kernel
theorem dX4_spares_18 : decode cX4_spares 18 = .ok (.aload_n 0, 1) := by decide +kernel
theorem dX4_spares_19 : decode cX4_spares 19 = .ok (.getfield 7, 3) := by decide +kernel
theorem dX4_spares_22 : decode cX4_spares 22 = .ok (.aload_n 0, 1) := by decide +kernel
theorem dX4_spares_23 : decode cX4_spares 23 = .ok (.getfield 33, 3) := by decide +kernel
theorem dX4_spares_26 : decode cX4_spares 26 = .ok (.aload_n 0, 1) := by decide +kernel
theorem dX4_spares_27 : decode cX4_spares 27 = .ok (.getfield 39, 3) := by decide +kernel
theorem dX4_spares_30 : decode cX4_spares 30 = .ok (.iload_n 2, 1) := by decide +kernel
theorem dX4_spares_31 : decode cX4_spares 31 = .ok (.iaload, 1) := by decide +kernel
theorem dX4_spares_32 : decode cX4_spares 32 = .ok (.iaload, 1) := by decide +kernel
theorem dX4_spares_33 : decode cX4_spares 33 = .ok (.iaload, 1) := by decide +kernel
theorem dX4_spares_34 : decode cX4_spares 34 = .ok (.aload_n 0, 1) := by decide +kernel
theorem dX4_spares_35 : decode cX4_spares 35 = .ok (.getfield 30, 3) := by decide +kernel
theorem dX4_spares_38 : decode cX4_spares 38 = .ok (.aload_n 0, 1) := by decide +kernel
theorem dX4_spares_39 : decode cX4_spares 39 = .ok (.getfield 39, 3) := by decide +kernel
theorem dX4_spares_42 : decode cX4_spares 42 = .ok (.iload_n 2, 1) := by decide +kernel
theorem dX4_spares_43 : decode cX4_spares 43 = .ok (.iaload, 1) := by decide +kernel
theorem dX4_spares_44 : decode cX4_spares 44 = .ok (.iaload, 1) := by decide +kernel
theorem dX4_spares_45 : decode cX4_spares 45 = .ok (.if_icmp .le 7, 3) := by decide +kernel
theorem dX4_spares_48 : decode cX4_spares 48 = .ok (.iconst 1, 1) := by decide +kernel
theorem dX4_spares_49 : decode cX4_spares 49 = .ok (.goto 4, 3) := by decide +kernel
theorem dX4_spares_52 : decode cX4_spares 52 = .ok (.iconst 0, 1) := by decide +kernel
theorem dX4_spares_53 : decode cX4_spares 53 = .ok (.iadd, 1) := by decide +kernel
theorem dX4_spares_54 : decode cX4_spares 54 = .ok (.istore_n 1, 1) := by decide +kernel
theorem dX4_spares_55 : decode cX4_spares 55 = .ok (.iinc 2 1, 3) := by decide +kernel
theorem dX4_spares_58 : decode cX4_spares 58 = .ok (.goto (-49), 3) := by decide +kernel
theorem dX4_spares_61 : decode cX4_spares 61 = .ok (.iload_n 1, 1) := by decide +kernel
theorem dX4_spares_62 : decode cX4_spares 62 = .ok (.ireturn, 1) := by decide +kernel
set_option maxRecDepth 20000 in
theorem ggX4_alarm_X4_in : GoodIn wsX4_alarm wsX4_in := goodIn_r _ [7] (by decide +kernel) (by decide +kernel)
set_option maxRecDepth 20000 in
theorem gX4_alarm_X4_in : GoodIn wsX4_alarm (va_wsS RX4 52 yX4_in wsX4_in) := goodIn_app (goodIn_of _ (by decide +kernel)) ggX4_alarm_X4_in
theorem dX4_alarm_0 : decode cX4_alarm 0 = .ok (.aload_n 0, 1) := by decide +kernel
theorem dX4_alarm_1 : decode cX4_alarm 1 = .ok (.iconst 0, 1) := by decide +kernel
theorem dX4_alarm_2 : decode cX4_alarm 2 = .ok (.putfield 45, 3) := by decide +kernel
theorem dX4_alarm_5 : decode cX4_alarm 5 = .ok (.iload_n 1, 1) := by decide +kernel
theorem dX4_alarm_6 : decode cX4_alarm 6 = .ok (.iconst 0, 1) := by decide +kernel
theorem dX4_alarm_7 : decode cX4_alarm 7 = .ok (.aload_n 0, 1) := by decide +kernel
theorem dX4_alarm_8 : decode cX4_alarm 8 = .ok (.getfield 88, 3) := by decide +kernel
theorem dX4_alarm_11 : decode cX4_alarm 11 = .ok (.iconst 1, 1) := by decide +kernel
theorem dX4_alarm_12 : decode cX4_alarm 12 = .ok (.isub, 1) := by decide +kernel
theorem dX4_alarm_13 : decode cX4_alarm 13 = .ok (.invokestatic 52, 3) := by decide +kernel
theorem dX4_alarm_16 : decode cX4_alarm 16 = .ok (.ifCond .eq 12, 3) := by decide +kernel
theorem dX4_alarm_19 : decode cX4_alarm 19 = .ok (.aload_n 0, 1) := by decide +kernel
theorem dX4_alarm_20 : decode cX4_alarm 20 = .ok (.getfield 42, 3) := by decide +kernel
theorem dX4_alarm_23 : decode cX4_alarm 23 = .ok (.iload_n 1, 1) := by decide +kernel
theorem dX4_alarm_24 : decode cX4_alarm 24 = .ok (.iaload, 1) := by decide +kernel
theorem dX4_alarm_25 : decode cX4_alarm 25 = .ok (.goto 4, 3) := by decide +kernel
theorem dX4_alarm_28 : decode cX4_alarm 28 = .ok (.iconst (-1), 1) := by decide +kernel
theorem dX4_alarm_29 : decode cX4_alarm 29 = .ok (.ireturn, 1) := by decide +kernel
set_option maxRecDepth 20000 in
theorem ggX4_lightLeft_X4_isMiner : GoodIn wsX4_lightLeft wsX4_isMiner := goodIn_r _ [8, 9, 10, 11, 7, 12, 13, 14, 15, 16, 17, 18, 19, 20, 21, 22, 23, 24, 25, 26, 27, 28, 29] (by decide +kernel) (by decide +kernel)
set_option maxRecDepth 20000 in
theorem gX4_lightLeft_X4_isMiner : GoodIn wsX4_lightLeft (wsV RX4 75 RX4 yX4_isMiner wsX4_isMiner) := goodIn_app (goodIn_of _ (by decide +kernel)) ggX4_lightLeft_X4_isMiner
theorem dX4_lightLeft_0 : decode cX4_lightLeft 0 = .ok (.aload_n 0, 1) := by decide +kernel
theorem dX4_lightLeft_1 : decode cX4_lightLeft 1 = .ok (.aload_n 0, 1) := by decide +kernel
theorem dX4_lightLeft_2 : decode cX4_lightLeft 2 = .ok (.iload_n 1, 1) := by decide +kernel
theorem dX4_lightLeft_3 : decode cX4_lightLeft 3 = .ok (.invokevirtual 75, 3) := by decide +kernel
theorem dX4_lightLeft_6 : decode cX4_lightLeft 6 = .ok (.ifCond .eq 7, 3) := by decide +kernel
theorem dX4_lightLeft_9 : decode cX4_lightLeft 9 = .ok (.iconst 0, 1) := by decide +kernel
theorem dX4_lightLeft_10 : decode cX4_lightLeft 10 = .ok (.goto 4, 3) := by decide +kernel
theorem dX4_lightLeft_13 : decode cX4_lightLeft 13 = .ok (.iconst 1, 1) := by decide +kernel
theorem dX4_lightLeft_14 : decode cX4_lightLeft 14 = .ok (.putfield 45, 3) := by decide +kernel
theorem dX4_lightLeft_17 : decode cX4_lightLeft 17 = .ok (.aload_n 0, 1) := by decide +kernel
theorem dX4_lightLeft_18 : decode cX4_lightLeft 18 = .ok (.getfield 45, 3) := by decide +kernel
theorem dX4_lightLeft_21 : decode cX4_lightLeft 21 = .ok (.ifCond .le 7, 3) := by decide +kernel
theorem dX4_lightLeft_24 : decode cX4_lightLeft 24 = .ok (.iconst 0, 1) := by decide +kernel
theorem dX4_lightLeft_25 : decode cX4_lightLeft 25 = .ok (.goto 29, 3) := by decide +kernel
theorem dX4_lightLeft_28 : decode cX4_lightLeft 28 = .ok (.aload_n 0, 1) := by decide +kernel
theorem dX4_lightLeft_29 : decode cX4_lightLeft 29 = .ok (.getfield 33, 3) := by decide +kernel
theorem dX4_lightLeft_32 : decode cX4_lightLeft 32 = .ok (.iload_n 1, 1) := by decide +kernel
theorem dX4_lightLeft_33 : decode cX4_lightLeft 33 = .ok (.iaload, 1) := by decide +kernel
theorem dX4_lightLeft_34 : decode cX4_lightLeft 34 = .ok (.iconst (-1), 1) := by decide +kernel
theorem dX4_lightLeft_35 : decode cX4_lightLeft 35 = .ok (.if_icmp .ne 7, 3) := by decide +kernel
theorem dX4_lightLeft_38 : decode cX4_lightLeft 38 = .ok (.iconst (-1), 1) := by decide +kernel
theorem dX4_lightLeft_39 : decode cX4_lightLeft 39 = .ok (.goto 15, 3) := by decide +kernel
theorem dX4_lightLeft_42 : decode cX4_lightLeft 42 = .ok (.aload_n 0, 1) := by decide +kernel
theorem dX4_lightLeft_43 : decode cX4_lightLeft 43 = .ok (.getfield 23, 3) := by decide +kernel
theorem dX4_lightLeft_46 : decode cX4_lightLeft 46 = .ok (.aload_n 0, 1) := by decide +kernel
theorem dX4_lightLeft_47 : decode cX4_lightLeft 47 = .ok (.getfield 33, 3) := by decide +kernel
theorem dX4_lightLeft_50 : decode cX4_lightLeft 50 = .ok (.iload_n 1, 1) := by decide +kernel
theorem dX4_lightLeft_51 : decode cX4_lightLeft 51 = .ok (.iaload, 1) := by decide +kernel
theorem dX4_lightLeft_52 : decode cX4_lightLeft 52 = .ok (.daload, 1) := by decide +kernel
theorem dX4_lightLeft_53 : decode cX4_lightLeft 53 = .ok (.d2i, 1) := by decide +kernel
theorem dX4_lightLeft_54 : decode cX4_lightLeft 54 = .ok (.ireturn, 1) := by decide +kernel
theorem dX4_rackCharge_0 : decode cX4_rackCharge 0 = .ok (.aload_n 0, 1) := by decide +kernel
theorem dX4_rackCharge_1 : decode cX4_rackCharge 1 = .ok (.iconst 0, 1) := by decide +kernel
theorem dX4_rackCharge_2 : decode cX4_rackCharge 2 = .ok (.putfield 45, 3) := by decide +kernel
theorem dX4_rackCharge_5 : decode cX4_rackCharge 5 = .ok (.dconst 0, 1) := by decide +kernel
theorem dX4_rackCharge_6 : decode cX4_rackCharge 6 = .ok (.dstore_n 1, 1) := by decide +kernel
theorem dX4_rackCharge_7 : decode cX4_rackCharge 7 = .ok (.dconst 0, 1) := by decide +kernel
theorem dX4_rackCharge_8 : decode cX4_rackCharge 8 = .ok (.dstore_n 3, 1) := by decide +kernel
theorem dX4_rackCharge_9 : decode cX4_rackCharge 9 = .ok (.iconst 0, 1) := by decide +kernel
theorem dX4_rackCharge_10 : decode cX4_rackCharge 10 = .ok (.istore 5, 2) := by decide +kernel
theorem dX4_rackCharge_12 : decode cX4_rackCharge 12 = .ok (.iload 5, 2) := by decide +kernel
theorem dX4_rackCharge_14 : decode cX4_rackCharge 14 = .ok (.aload_n 0, 1) := by decide +kernel
theorem dX4_rackCharge_15 : decode cX4_rackCharge 15 = .ok (.getfield 49, 3) := by decide +kernel
theorem dX4_rackCharge_18 : decode cX4_rackCharge 18 = .ok (.if_icmp .ge 57, 3) := by decide +kernel
theorem dX4_rackCharge_21 : decode cX4_rackCharge 21 = .ok (.dload_n 1, 1) := by decide +kernel
theorem dX4_rackCharge_22 : decode cX4_rackCharge 22 = .ok (.aload_n 0, 1) := by decide +kernel
theorem dX4_rackCharge_23 : decode cX4_rackCharge 23 = .ok (.getfield 13, 3) := by decide +kernel
theorem dX4_rackCharge_26 : decode cX4_rackCharge 26 = .ok (.iload 5, 2) := by decide +kernel
theorem dX4_rackCharge_28 : decode cX4_rackCharge 28 = .ok (.iaload, 1) := by decide +kernel
theorem dX4_rackCharge_29 : decode cX4_rackCharge 29 = .ok (.ifCond .ne 13, 3) := by decide +kernel
theorem dX4_rackCharge_32 : decode cX4_rackCharge 32 = .ok (.aload_n 0, 1) := by decide +kernel
theorem dX4_rackCharge_33 : decode cX4_rackCharge 33 = .ok (.getfield 23, 3) := by decide +kernel
theorem dX4_rackCharge_36 : decode cX4_rackCharge 36 = .ok (.iload 5, 2) := by decide +kernel
theorem dX4_rackCharge_38 : decode cX4_rackCharge 38 = .ok (.daload, 1) := by decide +kernel
theorem dX4_rackCharge_39 : decode cX4_rackCharge 39 = .ok (.goto 4, 3) := by decide +kernel
theorem dX4_rackCharge_42 : decode cX4_rackCharge 42 = .ok (.dconst 0, 1) := by decide +kernel
theorem dX4_rackCharge_43 : decode cX4_rackCharge 43 = .ok (.dadd, 1) := by decide +kernel
theorem dX4_rackCharge_44 : decode cX4_rackCharge 44 = .ok (.dstore_n 1, 1) := by decide +kernel
theorem dX4_rackCharge_45 : decode cX4_rackCharge 45 = .ok (.dload_n 3, 1) := by decide +kernel
theorem dX4_rackCharge_46 : decode cX4_rackCharge 46 = .ok (.aload_n 0, 1) := by decide +kernel
theorem dX4_rackCharge_47 : decode cX4_rackCharge 47 = .ok (.getfield 13, 3) := by decide +kernel
theorem dX4_rackCharge_50 : decode cX4_rackCharge 50 = .ok (.iload 5, 2) := by decide +kernel
theorem dX4_rackCharge_52 : decode cX4_rackCharge 52 = .ok (.iaload, 1) := by decide +kernel
theorem dX4_rackCharge_53 : decode cX4_rackCharge 53 = .ok (.ifCond .ne 13, 3) := by decide +kernel
theorem dX4_rackCharge_56 : decode cX4_rackCharge 56 = .ok (.aload_n 0, 1) := by decide +kernel
theorem dX4_rackCharge_57 : decode cX4_rackCharge 57 = .ok (.getfield 27, 3) := by decide +kernel
theorem dX4_rackCharge_60 : decode cX4_rackCharge 60 = .ok (.iload 5, 2) := by decide +kernel
theorem dX4_rackCharge_62 : decode cX4_rackCharge 62 = .ok (.daload, 1) := by decide +kernel
theorem dX4_rackCharge_63 : decode cX4_rackCharge 63 = .ok (.goto 4, 3) := by decide +kernel
theorem dX4_rackCharge_66 : decode cX4_rackCharge 66 = .ok (.dconst 0, 1) := by decide +kernel
theorem dX4_rackCharge_67 : decode cX4_rackCharge 67 = .ok (.dadd, 1) := by decide +kernel
theorem dX4_rackCharge_68 : decode cX4_rackCharge 68 = .ok (.dstore_n 3, 1) := by decide +kernel
theorem dX4_rackCharge_69 : decode cX4_rackCharge 69 = .ok (.iinc 5 1, 3) := by decide +kernel
theorem dX4_rackCharge_72 : decode cX4_rackCharge 72 = .ok (.goto (-60), 3) := by decide +kernel
theorem dX4_rackCharge_75 : decode cX4_rackCharge 75 = .ok (.dload_n 3, 1) := by decide +kernel
theorem dX4_rackCharge_76 : decode cX4_rackCharge 76 = .ok (.dconst 0, 1) := by decide +kernel
theorem dX4_rackCharge_77 : decode cX4_rackCharge 77 = .ok (.dcmp .l, 1) := by decide +kernel
theorem dX4_rackCharge_78 : decode cX4_rackCharge 78 = .ok (.ifCond .ne 7, 3) := by decide +kernel
theorem dX4_rackCharge_81 : decode cX4_rackCharge 81 = .ok (.iconst 0, 1) := by decide +kernel
theorem dX4_rackCharge_82 : decode cX4_rackCharge 82 = .ok (.goto 11, 3) := by decide +kernel
theorem dX4_rackCharge_85 : decode cX4_rackCharge 85 = .ok (.dload_n 1, 1) := by decide +kernel
theorem dX4_rackCharge_86 : decode cX4_rackCharge 86 = .ok (.dload_n 3, 1) := by decide +kernel
theorem dX4_rackCharge_87 : decode cX4_rackCharge 87 = .ok (.ddiv, 1) := by decide +kernel
theorem dX4_rackCharge_88 : decode cX4_rackCharge 88 = .ok (.ldc2_w 120, 3) := by decide +kernel
theorem dX4_rackCharge_91 : decode cX4_rackCharge 91 = .ok (.dmul, 1) := by decide +kernel
theorem dX4_rackCharge_92 : decode cX4_rackCharge 92 = .ok (.d2i, 1) := by decide +kernel
theorem dX4_rackCharge_93 : decode cX4_rackCharge 93 = .ok (.ireturn, 1) := by decide +kernel
end
section
set_option maxRecDepth 20000 in
theorem ggL_addLamp_X3_addLamp : GoodIn wsL_addLamp wsX3_addLamp := goodIn_ca (goodIn_ca (goodIn_r _ [7, 8, 9, 10, 11, 12, 6, 13, 14, 15, 16, 17, 18, 19, 20, 21, 22, 23, 24, 25, 26, 27, 28, 29, 30, 31, 32, 33, 34, 35, 36, 37, 38, 39, 40, 41, 42, 43, 44, 45, 46] (by decide +kernel) (by decide +kernel)) (goodIn_sub (fun _ h => List.mem_cons_of_mem _ (List.mem_append_left _ (List.mem_append_right _ h))) (by decide +kernel))) (goodIn_sub (fun _ h => List.mem_cons_of_mem _ (List.mem_append_right _ h)) (by decide +kernel))
set_option maxRecDepth 20000 in
theorem gL_addLamp_X3_addLamp : GoodIn wsL_addLamp (wsV RL 7 RX3 yX3_addLamp wsX3_addLamp) := goodIn_app (goodIn_of _ (by decide +kernel)) ggL_addLamp_X3_addLamp
theorem dL_addLamp_0 : decode cL_addLamp 0 = .ok (.aload_n 2, 1) := by decide +kernel
theorem dL_addLamp_1 : decode cL_addLamp 1 = .ok (.iconst 0, 1) := by decide +kernel
theorem dL_addLamp_2 : decode cL_addLamp 2 = .ok (.aload_n 0, 1) := by decide +kernel
theorem dL_addLamp_3 : decode cL_addLamp 3 = .ok (.iload_n 1, 1) := by decide +kernel
theorem dL_addLamp_4 : decode cL_addLamp 4 = .ok (.invokevirtual 7, 3) := by decide +kernel
theorem dL_addLamp_7 : decode cL_addLamp 7 = .ok (.i2l, 1) := by decide +kernel
theorem dL_addLamp_8 : decode cL_addLamp 8 = .ok (.lastore, 1) := by decide +kernel
theorem dL_addLamp_9 : decode cL_addLamp 9 = .ok (.goto 9, 3) := by decide +kernel
theorem dL_addLamp_12 : decode cL_addLamp 12 = .ok (.astore_n 3, 1) := by decide +kernel
theorem dL_addLamp_13 : decode cL_addLamp 13 = .ok (.iconst 1, 1) := by decide +kernel
theorem dL_addLamp_14 : decode cL_addLamp 14 = .ok (.ireturn, 1) := by decide +kernel
theorem dL_addLamp_15 : decode cL_addLamp 15 = .ok (.astore_n 3, 1) := by decide +kernel
theorem dL_addLamp_16 : decode cL_addLamp 16 = .ok (.iconst 2, 1) := by decide +kernel
theorem dL_addLamp_17 : decode cL_addLamp 17 = .ok (.ireturn, 1) := by decide +kernel
theorem dL_addLamp_18 : decode cL_addLamp 18 = .ok (.iconst 0, 1) := by decide +kernel
theorem dL_addLamp_19 : decode cL_addLamp 19 = .ok (.ireturn, 1) := by decide +kernel
set_option maxRecDepth 20000 in
theorem ggL_addMiner_X3_addMiner : GoodIn wsL_addMiner wsX3_addMiner := goodIn_ca (goodIn_ca (goodIn_r _ [7, 8, 9, 10, 11, 12, 6, 13, 14, 15, 16, 17, 18, 19, 20, 21, 22, 23, 24, 25, 26, 27, 28, 29, 30, 31, 32, 33, 34, 35, 36, 37] (by decide +kernel) (by decide +kernel)) (goodIn_sub (fun _ h => List.mem_cons_of_mem _ (List.mem_append_left _ (List.mem_append_right _ h))) (by decide +kernel))) (goodIn_sub (fun _ h => List.mem_cons_of_mem _ (List.mem_append_right _ h)) (by decide +kernel))
set_option maxRecDepth 20000 in
theorem gL_addMiner_X3_addMiner : GoodIn wsL_addMiner (wsV RL 17 RX3 yX3_addMiner wsX3_addMiner) := goodIn_app (goodIn_of _ (by decide +kernel)) ggL_addMiner_X3_addMiner
theorem dL_addMiner_0 : decode cL_addMiner 0 = .ok (.aload_n 2, 1) := by decide +kernel
theorem dL_addMiner_1 : decode cL_addMiner 1 = .ok (.iconst 0, 1) := by decide +kernel
theorem dL_addMiner_2 : decode cL_addMiner 2 = .ok (.aload_n 0, 1) := by decide +kernel
theorem dL_addMiner_3 : decode cL_addMiner 3 = .ok (.iload_n 1, 1) := by decide +kernel
theorem dL_addMiner_4 : decode cL_addMiner 4 = .ok (.invokevirtual 17, 3) := by decide +kernel
theorem dL_addMiner_7 : decode cL_addMiner 7 = .ok (.i2l, 1) := by decide +kernel
theorem dL_addMiner_8 : decode cL_addMiner 8 = .ok (.lastore, 1) := by decide +kernel
theorem dL_addMiner_9 : decode cL_addMiner 9 = .ok (.goto 9, 3) := by decide +kernel
theorem dL_addMiner_12 : decode cL_addMiner 12 = .ok (.astore_n 3, 1) := by decide +kernel
theorem dL_addMiner_13 : decode cL_addMiner 13 = .ok (.iconst 1, 1) := by decide +kernel
theorem dL_addMiner_14 : decode cL_addMiner 14 = .ok (.ireturn, 1) := by decide +kernel
theorem dL_addMiner_15 : decode cL_addMiner 15 = .ok (.astore_n 3, 1) := by decide +kernel
theorem dL_addMiner_16 : decode cL_addMiner 16 = .ok (.iconst 2, 1) := by decide +kernel
theorem dL_addMiner_17 : decode cL_addMiner 17 = .ok (.ireturn, 1) := by decide +kernel
theorem dL_addMiner_18 : decode cL_addMiner 18 = .ok (.iconst 0, 1) := by decide +kernel
theorem dL_addMiner_19 : decode cL_addMiner 19 = .ok (.ireturn, 1) := by decide +kernel
set_option maxRecDepth 20000 in
theorem ggL_issue_X3_issue : GoodIn wsL_issue wsX3_issue := goodIn_ca (goodIn_ca (goodIn_r _ [7, 8, 9, 10, 11, 12, 13, 14, 15, 6, 16, 17, 18, 19, 20, 21, 22, 23, 24, 25, 26, 27, 28, 29, 30, 31, 32, 33, 34, 35, 36, 37, 38, 39, 40, 41, 42, 43, 44, 45, 46, 47, 48, 49, 50, 51, 52, 53, 54, 55, 56, 57, 58, 59, 60, 61, 62, 63, 64, 65, 66, 67, 68, 69, 70, 71, 72, 73, 74, 75, 76, 77, 78, 79, 80] (by decide +kernel) (by decide +kernel)) (goodIn_sub (fun _ h => List.mem_cons_of_mem _ (List.mem_append_left _ (List.mem_append_right _ h))) (by decide +kernel))) (goodIn_sub (fun _ h => List.mem_cons_of_mem _ (List.mem_append_right _ h)) (by decide +kernel))
set_option maxRecDepth 20000 in
theorem gL_issue_X3_issue : GoodIn wsL_issue (wsV RL 20 RX3 yX3_issue wsX3_issue) := goodIn_app (goodIn_of _ (by decide +kernel)) ggL_issue_X3_issue
theorem dL_issue_0 : decode cL_issue 0 = .ok (.aload_n 2, 1) := by decide +kernel
theorem dL_issue_1 : decode cL_issue 1 = .ok (.iconst 0, 1) := by decide +kernel
theorem dL_issue_2 : decode cL_issue 2 = .ok (.aload_n 0, 1) := by decide +kernel
theorem dL_issue_3 : decode cL_issue 3 = .ok (.iload_n 1, 1) := by decide +kernel
theorem dL_issue_4 : decode cL_issue 4 = .ok (.invokevirtual 20, 3) := by decide +kernel
theorem dL_issue_7 : decode cL_issue 7 = .ok (.i2l, 1) := by decide +kernel
theorem dL_issue_8 : decode cL_issue 8 = .ok (.lastore, 1) := by decide +kernel
theorem dL_issue_9 : decode cL_issue 9 = .ok (.goto 9, 3) := by decide +kernel
theorem dL_issue_12 : decode cL_issue 12 = .ok (.astore_n 3, 1) := by decide +kernel
theorem dL_issue_13 : decode cL_issue 13 = .ok (.iconst 1, 1) := by decide +kernel
theorem dL_issue_14 : decode cL_issue 14 = .ok (.ireturn, 1) := by decide +kernel
theorem dL_issue_15 : decode cL_issue 15 = .ok (.astore_n 3, 1) := by decide +kernel
theorem dL_issue_16 : decode cL_issue 16 = .ok (.iconst 2, 1) := by decide +kernel
theorem dL_issue_17 : decode cL_issue 17 = .ok (.ireturn, 1) := by decide +kernel
theorem dL_issue_18 : decode cL_issue 18 = .ok (.iconst 0, 1) := by decide +kernel
theorem dL_issue_19 : decode cL_issue 19 = .ok (.ireturn, 1) := by decide +kernel
set_option maxRecDepth 20000 in
theorem ggL_back_X3_back : GoodIn wsL_back wsX3_back := goodIn_ca (goodIn_ca (goodIn_r _ [7, 8, 9, 10, 11, 12, 13, 14, 15, 16, 6, 17, 18, 19, 20, 21, 22, 23, 24, 25, 26, 27, 28, 29, 30, 31, 32, 33, 34, 35, 36, 37, 38, 39, 40, 41, 42, 43, 44, 45, 46, 47, 48, 49, 50, 51, 52, 53, 54, 55, 56, 57, 58, 59, 60, 61, 62, 63, 64, 65, 66, 67, 68, 69, 70, 71, 72, 73, 74] (by decide +kernel) (by decide +kernel)) (goodIn_sub (fun _ h => List.mem_cons_of_mem _ (List.mem_append_left _ (List.mem_append_right _ h))) (by decide +kernel))) (goodIn_sub (fun _ h => List.mem_cons_of_mem _ (List.mem_append_right _ h)) (by decide +kernel))
set_option maxRecDepth 20000 in
theorem gL_back_X3_back : GoodIn wsL_back (wsV RL 25 RX3 yX3_back wsX3_back) := goodIn_app (goodIn_of _ (by decide +kernel)) ggL_back_X3_back
theorem dL_back_0 : decode cL_back 0 = .ok (.aload_n 2, 1) := by decide +kernel
theorem dL_back_1 : decode cL_back 1 = .ok (.iconst 0, 1) := by decide +kernel
theorem dL_back_2 : decode cL_back 2 = .ok (.aload_n 0, 1) := by decide +kernel
theorem dL_back_3 : decode cL_back 3 = .ok (.iload_n 1, 1) := by decide +kernel
theorem dL_back_4 : decode cL_back 4 = .ok (.invokevirtual 25, 3) := by decide +kernel
theorem dL_back_7 : decode cL_back 7 = .ok (.i2l, 1) := by decide +kernel
theorem dL_back_8 : decode cL_back 8 = .ok (.lastore, 1) := by decide +kernel
theorem dL_back_9 : decode cL_back 9 = .ok (.goto 9, 3) := by decide +kernel
theorem dL_back_12 : decode cL_back 12 = .ok (.astore_n 3, 1) := by decide +kernel
theorem dL_back_13 : decode cL_back 13 = .ok (.iconst 1, 1) := by decide +kernel
theorem dL_back_14 : decode cL_back 14 = .ok (.ireturn, 1) := by decide +kernel
theorem dL_back_15 : decode cL_back 15 = .ok (.astore_n 3, 1) := by decide +kernel
theorem dL_back_16 : decode cL_back 16 = .ok (.iconst 2, 1) := by decide +kernel
theorem dL_back_17 : decode cL_back 17 = .ok (.ireturn, 1) := by decide +kernel
theorem dL_back_18 : decode cL_back 18 = .ok (.iconst 0, 1) := by decide +kernel
theorem dL_back_19 : decode cL_back 19 = .ok (.ireturn, 1) := by decide +kernel
set_option maxRecDepth 20000 in
theorem ggL_test_X3_test : GoodIn wsL_test wsX3_test := goodIn_ca (goodIn_ca (goodIn_r _ [7, 8, 9, 10, 11, 12, 13, 6, 14, 15, 16, 17, 18, 19, 20, 21, 22, 23, 24, 25, 26, 27, 28, 29, 30, 31, 32, 33, 34, 35, 36, 37, 38, 39, 40, 41, 42, 43, 44, 45, 46, 47, 48, 49, 50, 51, 52, 53, 54, 55, 56] (by decide +kernel) (by decide +kernel)) (goodIn_sub (fun _ h => List.mem_cons_of_mem _ (List.mem_append_left _ (List.mem_append_right _ h))) (by decide +kernel))) (goodIn_sub (fun _ h => List.mem_cons_of_mem _ (List.mem_append_right _ h)) (by decide +kernel))
set_option maxRecDepth 20000 in
theorem gL_test_X3_test : GoodIn wsL_test (wsV RL 28 RX3 yX3_test wsX3_test) := goodIn_app (goodIn_of _ (by decide +kernel)) ggL_test_X3_test
theorem dL_test_0 : decode cL_test 0 = .ok (.aload_n 2, 1) := by decide +kernel
theorem dL_test_1 : decode cL_test 1 = .ok (.iconst 0, 1) := by decide +kernel
theorem dL_test_2 : decode cL_test 2 = .ok (.aload_n 0, 1) := by decide +kernel
theorem dL_test_3 : decode cL_test 3 = .ok (.iload_n 1, 1) := by decide +kernel
theorem dL_test_4 : decode cL_test 4 = .ok (.invokevirtual 28, 3) := by decide +kernel
theorem dL_test_7 : decode cL_test 7 = .ok (.i2l, 1) := by decide +kernel
theorem dL_test_8 : decode cL_test 8 = .ok (.lastore, 1) := by decide +kernel
theorem dL_test_9 : decode cL_test 9 = .ok (.goto 9, 3) := by decide +kernel
theorem dL_test_12 : decode cL_test 12 = .ok (.astore_n 3, 1) := by decide +kernel
theorem dL_test_13 : decode cL_test 13 = .ok (.iconst 1, 1) := by decide +kernel
theorem dL_test_14 : decode cL_test 14 = .ok (.ireturn, 1) := by decide +kernel
theorem dL_test_15 : decode cL_test 15 = .ok (.astore_n 3, 1) := by decide +kernel
theorem dL_test_16 : decode cL_test 16 = .ok (.iconst 2, 1) := by decide +kernel
theorem dL_test_17 : decode cL_test 17 = .ok (.ireturn, 1) := by decide +kernel
theorem dL_test_18 : decode cL_test 18 = .ok (.iconst 0, 1) := by decide +kernel
theorem dL_test_19 : decode cL_test 19 = .ok (.ireturn, 1) := by decide +kernel
set_option maxRecDepth 20000 in
theorem ggL_mend_X3_mend : GoodIn wsL_mend wsX3_mend := goodIn_ca (goodIn_ca (goodIn_r _ [7, 8, 9, 10, 11, 12, 13, 6, 14, 15, 16, 17, 18, 19, 20, 21, 22, 23, 24, 25, 26, 27, 28, 29, 30, 31, 32, 33, 34, 35, 36, 37, 38, 39, 40, 41, 42, 43, 44, 45, 46, 47, 48, 49, 50, 51, 52, 53, 54, 55, 56, 57, 58, 59, 60] (by decide +kernel) (by decide +kernel)) (goodIn_sub (fun _ h => List.mem_cons_of_mem _ (List.mem_append_left _ (List.mem_append_right _ h))) (by decide +kernel))) (goodIn_sub (fun _ h => List.mem_cons_of_mem _ (List.mem_append_right _ h)) (by decide +kernel))
set_option maxRecDepth 20000 in
theorem gL_mend_X3_mend : GoodIn wsL_mend (wsV RL 31 RX3 yX3_mend wsX3_mend) := goodIn_app (goodIn_of _ (by decide +kernel)) ggL_mend_X3_mend
theorem dL_mend_0 : decode cL_mend 0 = .ok (.aload_n 2, 1) := by decide +kernel
theorem dL_mend_1 : decode cL_mend 1 = .ok (.iconst 0, 1) := by decide +kernel
theorem dL_mend_2 : decode cL_mend 2 = .ok (.aload_n 0, 1) := by decide +kernel
theorem dL_mend_3 : decode cL_mend 3 = .ok (.iload_n 1, 1) := by decide +kernel
theorem dL_mend_4 : decode cL_mend 4 = .ok (.invokevirtual 31, 3) := by decide +kernel
theorem dL_mend_7 : decode cL_mend 7 = .ok (.ifCond .eq 7, 3) := by decide +kernel
theorem dL_mend_10 : decode cL_mend 10 = .ok (.lconst 1, 1) := by decide +kernel
theorem dL_mend_11 : decode cL_mend 11 = .ok (.goto 4, 3) := by decide +kernel
theorem dL_mend_14 : decode cL_mend 14 = .ok (.lconst 0, 1) := by decide +kernel
theorem dL_mend_15 : decode cL_mend 15 = .ok (.lastore, 1) := by decide +kernel
theorem dL_mend_16 : decode cL_mend 16 = .ok (.goto 9, 3) := by decide +kernel
theorem dL_mend_19 : decode cL_mend 19 = .ok (.astore_n 3, 1) := by decide +kernel
theorem dL_mend_20 : decode cL_mend 20 = .ok (.iconst 1, 1) := by decide +kernel
theorem dL_mend_21 : decode cL_mend 21 = .ok (.ireturn, 1) := by decide +kernel
theorem dL_mend_22 : decode cL_mend 22 = .ok (.astore_n 3, 1) := by decide +kernel
theorem dL_mend_23 : decode cL_mend 23 = .ok (.iconst 2, 1) := by decide +kernel
theorem dL_mend_24 : decode cL_mend 24 = .ok (.ireturn, 1) := by decide +kernel
theorem dL_mend_25 : decode cL_mend 25 = .ok (.iconst 0, 1) := by decide +kernel
theorem dL_mend_26 : decode cL_mend 26 = .ok (.ireturn, 1) := by decide +kernel
set_option maxRecDepth 20000 in
theorem ggL_hours_X3_hours : GoodIn wsL_hours wsX3_hours := goodIn_ca (goodIn_r _ [6, 7, 8, 9, 10, 11, 5, 12, 13, 14, 15, 16, 17, 18, 19, 20, 21, 22, 23, 24, 25, 26, 27, 28, 29, 30, 31, 32, 33, 34, 35, 36, 37, 38, 39, 40, 41, 42, 43, 44, 45, 46, 47, 48, 49, 50, 51, 52, 53, 54, 55, 56, 57, 58, 59, 60, 61, 62, 63, 64, 65, 66, 67, 68, 69, 70, 71, 72, 73, 74, 75, 76, 77, 78, 79, 80] (by decide +kernel) (by decide +kernel)) (goodIn_sub (fun _ h => List.mem_cons_of_mem _ (List.mem_append_right _ h)) (by decide +kernel))
set_option maxRecDepth 20000 in
theorem gL_hours_X3_hours : GoodIn wsL_hours (wsV RL 35 RX3 yX3_hours wsX3_hours) := goodIn_app (goodIn_of _ (by decide +kernel)) ggL_hours_X3_hours
theorem dL_hours_0 : decode cL_hours 0 = .ok (.aload_n 2, 1) := by decide +kernel
theorem dL_hours_1 : decode cL_hours 1 = .ok (.iconst 0, 1) := by decide +kernel
theorem dL_hours_2 : decode cL_hours 2 = .ok (.aload_n 0, 1) := by decide +kernel
theorem dL_hours_3 : decode cL_hours 3 = .ok (.iload_n 1, 1) := by decide +kernel
theorem dL_hours_4 : decode cL_hours 4 = .ok (.invokevirtual 35, 3) := by decide +kernel
theorem dL_hours_7 : decode cL_hours 7 = .ok (.i2l, 1) := by decide +kernel
theorem dL_hours_8 : decode cL_hours 8 = .ok (.lastore, 1) := by decide +kernel
theorem dL_hours_9 : decode cL_hours 9 = .ok (.goto 6, 3) := by decide +kernel
theorem dL_hours_12 : decode cL_hours 12 = .ok (.astore_n 3, 1) := by decide +kernel
theorem dL_hours_13 : decode cL_hours 13 = .ok (.iconst 1, 1) := by decide +kernel
theorem dL_hours_14 : decode cL_hours 14 = .ok (.ireturn, 1) := by decide +kernel
theorem dL_hours_15 : decode cL_hours 15 = .ok (.iconst 0, 1) := by decide +kernel
theorem dL_hours_16 : decode cL_hours 16 = .ok (.ireturn, 1) := by decide +kernel
set_option maxRecDepth 20000 in
theorem ggL_lampOf_X3_lampOf : GoodIn wsL_lampOf wsX3_lampOf := goodIn_ca (goodIn_r _ [6, 7, 8, 9, 10, 5, 11, 12, 13, 14, 15, 16, 17, 18, 19, 20, 21, 22, 23, 24, 25, 26, 27, 28, 29, 30, 31, 32, 33, 34] (by decide +kernel) (by decide +kernel)) (goodIn_sub (fun _ h => List.mem_cons_of_mem _ (List.mem_append_right _ h)) (by decide +kernel))
set_option maxRecDepth 20000 in
theorem gL_lampOf_X3_lampOf : GoodIn wsL_lampOf (wsV RL 38 RX3 yX3_lampOf wsX3_lampOf) := goodIn_app (goodIn_of _ (by decide +kernel)) ggL_lampOf_X3_lampOf
theorem dL_lampOf_0 : decode cL_lampOf 0 = .ok (.aload_n 2, 1) := by decide +kernel
theorem dL_lampOf_1 : decode cL_lampOf 1 = .ok (.iconst 0, 1) := by decide +kernel
theorem dL_lampOf_2 : decode cL_lampOf 2 = .ok (.aload_n 0, 1) := by decide +kernel
theorem dL_lampOf_3 : decode cL_lampOf 3 = .ok (.iload_n 1, 1) := by decide +kernel
theorem dL_lampOf_4 : decode cL_lampOf 4 = .ok (.invokevirtual 38, 3) := by decide +kernel
theorem dL_lampOf_7 : decode cL_lampOf 7 = .ok (.i2l, 1) := by decide +kernel
theorem dL_lampOf_8 : decode cL_lampOf 8 = .ok (.lastore, 1) := by decide +kernel
theorem dL_lampOf_9 : decode cL_lampOf 9 = .ok (.goto 6, 3) := by decide +kernel
theorem dL_lampOf_12 : decode cL_lampOf 12 = .ok (.astore_n 3, 1) := by decide +kernel
theorem dL_lampOf_13 : decode cL_lampOf 13 = .ok (.iconst 1, 1) := by decide +kernel
theorem dL_lampOf_14 : decode cL_lampOf 14 = .ok (.ireturn, 1) := by decide +kernel
theorem dL_lampOf_15 : decode cL_lampOf 15 = .ok (.iconst 0, 1) := by decide +kernel
theorem dL_lampOf_16 : decode cL_lampOf 16 = .ok (.ireturn, 1) := by decide +kernel
set_option maxRecDepth 20000 in
theorem ggL_hoursBelow_X3_hoursBelow : GoodIn wsL_hoursBelow wsX3_hoursBelow := goodIn_ca (goodIn_r _ [6, 7, 8, 9, 10, 11, 5, 12, 13, 14, 15, 16, 17, 18, 19, 20, 21, 22, 23, 24, 25, 26, 27, 28, 29, 30, 31, 32, 33, 34, 35, 36, 37, 38, 39, 40] (by decide +kernel) (by decide +kernel)) (goodIn_sub (fun _ h => List.mem_cons_of_mem _ (List.mem_append_right _ h)) (by decide +kernel))
set_option maxRecDepth 20000 in
theorem gL_hoursBelow_X3_hoursBelow : GoodIn wsL_hoursBelow (wsV RL 41 RX3 yX3_hoursBelow wsX3_hoursBelow) := goodIn_app (goodIn_of _ (by decide +kernel)) ggL_hoursBelow_X3_hoursBelow
theorem dL_hoursBelow_0 : decode cL_hoursBelow 0 = .ok (.aload_n 2, 1) := by decide +kernel
theorem dL_hoursBelow_1 : decode cL_hoursBelow 1 = .ok (.iconst 0, 1) := by decide +kernel
theorem dL_hoursBelow_2 : decode cL_hoursBelow 2 = .ok (.aload_n 0, 1) := by decide +kernel
theorem dL_hoursBelow_3 : decode cL_hoursBelow 3 = .ok (.iload_n 1, 1) := by decide +kernel
theorem dL_hoursBelow_4 : decode cL_hoursBelow 4 = .ok (.invokevirtual 41, 3) := by decide +kernel
theorem dL_hoursBelow_7 : decode cL_hoursBelow 7 = .ok (.i2l, 1) := by decide +kernel
theorem dL_hoursBelow_8 : decode cL_hoursBelow 8 = .ok (.lastore, 1) := by decide +kernel
theorem dL_hoursBelow_9 : decode cL_hoursBelow 9 = .ok (.goto 6, 3) := by decide +kernel
theorem dL_hoursBelow_12 : decode cL_hoursBelow 12 = .ok (.astore_n 3, 1) := by decide +kernel
theorem dL_hoursBelow_13 : decode cL_hoursBelow 13 = .ok (.iconst 1, 1) := by decide +kernel
theorem dL_hoursBelow_14 : decode cL_hoursBelow 14 = .ok (.ireturn, 1) := by decide +kernel
theorem dL_hoursBelow_15 : decode cL_hoursBelow 15 = .ok (.iconst 0, 1) := by decide +kernel
theorem dL_hoursBelow_16 : decode cL_hoursBelow 16 = .ok (.ireturn, 1) := by decide +kernel
set_option maxRecDepth 20000 in
theorem ggL_placeOf_X3_placeOf : GoodIn wsL_placeOf wsX3_placeOf := goodIn_ca (goodIn_r _ [6, 7, 8, 9, 10, 5, 11, 12, 13, 14, 15, 16, 17, 18, 19, 20, 21, 22, 23, 24, 25, 26, 27, 28, 29, 30, 31, 32, 33, 34, 35] (by decide +kernel) (by decide +kernel)) (goodIn_sub (fun _ h => List.mem_cons_of_mem _ (List.mem_append_right _ h)) (by decide +kernel))
set_option maxRecDepth 20000 in
theorem gL_placeOf_X3_placeOf : GoodIn wsL_placeOf (wsV RL 44 RX3 yX3_placeOf wsX3_placeOf) := goodIn_app (goodIn_of _ (by decide +kernel)) ggL_placeOf_X3_placeOf
theorem dL_placeOf_0 : decode cL_placeOf 0 = .ok (.aload_n 2, 1) := by decide +kernel
theorem dL_placeOf_1 : decode cL_placeOf 1 = .ok (.iconst 0, 1) := by decide +kernel
theorem dL_placeOf_2 : decode cL_placeOf 2 = .ok (.aload_n 0, 1) := by decide +kernel
theorem dL_placeOf_3 : decode cL_placeOf 3 = .ok (.iload_n 1, 1) := by decide +kernel
theorem dL_placeOf_4 : decode cL_placeOf 4 = .ok (.invokevirtual 44, 3) := by decide +kernel
theorem dL_placeOf_7 : decode cL_placeOf 7 = .ok (.i2l, 1) := by decide +kernel
theorem dL_placeOf_8 : decode cL_placeOf 8 = .ok (.lastore, 1) := by decide +kernel
theorem dL_placeOf_9 : decode cL_placeOf 9 = .ok (.goto 6, 3) := by decide +kernel
theorem dL_placeOf_12 : decode cL_placeOf 12 = .ok (.astore_n 3, 1) := by decide +kernel
theorem dL_placeOf_13 : decode cL_placeOf 13 = .ok (.iconst 1, 1) := by decide +kernel
theorem dL_placeOf_14 : decode cL_placeOf 14 = .ok (.ireturn, 1) := by decide +kernel
theorem dL_placeOf_15 : decode cL_placeOf 15 = .ok (.iconst 0, 1) := by decide +kernel
theorem dL_placeOf_16 : decode cL_placeOf 16 = .ok (.ireturn, 1) := by decide +kernel
set_option maxRecDepth 20000 in
theorem ggL_chargeOf_X3_chargeOf : GoodIn wsL_chargeOf wsX3_chargeOf := goodIn_ca (goodIn_r _ [6, 7, 8, 9, 10, 5, 11, 12, 13, 14, 15, 16, 17, 18, 19, 20, 21, 22, 23, 24, 25, 26, 27, 28, 29, 30, 31, 32, 33, 34, 35] (by decide +kernel) (by decide +kernel)) (goodIn_sub (fun _ h => List.mem_cons_of_mem _ (List.mem_append_right _ h)) (by decide +kernel))
set_option maxRecDepth 20000 in
theorem gL_chargeOf_X3_chargeOf : GoodIn wsL_chargeOf (wsV RL 47 RX3 yX3_chargeOf wsX3_chargeOf) := goodIn_app (goodIn_of _ (by decide +kernel)) ggL_chargeOf_X3_chargeOf
theorem dL_chargeOf_0 : decode cL_chargeOf 0 = .ok (.aload_n 2, 1) := by decide +kernel
theorem dL_chargeOf_1 : decode cL_chargeOf 1 = .ok (.iconst 0, 1) := by decide +kernel
theorem dL_chargeOf_2 : decode cL_chargeOf 2 = .ok (.aload_n 0, 1) := by decide +kernel
theorem dL_chargeOf_3 : decode cL_chargeOf 3 = .ok (.iload_n 1, 1) := by decide +kernel
theorem dL_chargeOf_4 : decode cL_chargeOf 4 = .ok (.invokevirtual 47, 3) := by decide +kernel
theorem dL_chargeOf_7 : decode cL_chargeOf 7 = .ok (.dastore, 1) := by decide +kernel
theorem dL_chargeOf_8 : decode cL_chargeOf 8 = .ok (.goto 6, 3) := by decide +kernel
theorem dL_chargeOf_11 : decode cL_chargeOf 11 = .ok (.astore_n 3, 1) := by decide +kernel
theorem dL_chargeOf_12 : decode cL_chargeOf 12 = .ok (.iconst 1, 1) := by decide +kernel
theorem dL_chargeOf_13 : decode cL_chargeOf 13 = .ok (.ireturn, 1) := by decide +kernel
theorem dL_chargeOf_14 : decode cL_chargeOf 14 = .ok (.iconst 0, 1) := by decide +kernel
theorem dL_chargeOf_15 : decode cL_chargeOf 15 = .ok (.ireturn, 1) := by decide +kernel
set_option maxRecDepth 20000 in
theorem ggL_capacityOf_X3_capacityOf : GoodIn wsL_capacityOf wsX3_capacityOf := goodIn_ca (goodIn_r _ [6, 7, 8, 9, 10, 5, 11, 12, 13, 14, 15, 16, 17, 18, 19, 20, 21, 22, 23, 24, 25, 26, 27, 28, 29, 30, 31, 32, 33, 34, 35] (by decide +kernel) (by decide +kernel)) (goodIn_sub (fun _ h => List.mem_cons_of_mem _ (List.mem_append_right _ h)) (by decide +kernel))
set_option maxRecDepth 20000 in
theorem gL_capacityOf_X3_capacityOf : GoodIn wsL_capacityOf (wsV RL 51 RX3 yX3_capacityOf wsX3_capacityOf) := goodIn_app (goodIn_of _ (by decide +kernel)) ggL_capacityOf_X3_capacityOf
theorem dL_capacityOf_0 : decode cL_capacityOf 0 = .ok (.aload_n 2, 1) := by decide +kernel
theorem dL_capacityOf_1 : decode cL_capacityOf 1 = .ok (.iconst 0, 1) := by decide +kernel
theorem dL_capacityOf_2 : decode cL_capacityOf 2 = .ok (.aload_n 0, 1) := by decide +kernel
theorem dL_capacityOf_3 : decode cL_capacityOf 3 = .ok (.iload_n 1, 1) := by decide +kernel
theorem dL_capacityOf_4 : decode cL_capacityOf 4 = .ok (.invokevirtual 51, 3) := by decide +kernel
theorem dL_capacityOf_7 : decode cL_capacityOf 7 = .ok (.dastore, 1) := by decide +kernel
theorem dL_capacityOf_8 : decode cL_capacityOf 8 = .ok (.goto 6, 3) := by decide +kernel
theorem dL_capacityOf_11 : decode cL_capacityOf 11 = .ok (.astore_n 3, 1) := by decide +kernel
theorem dL_capacityOf_12 : decode cL_capacityOf 12 = .ok (.iconst 1, 1) := by decide +kernel
theorem dL_capacityOf_13 : decode cL_capacityOf 13 = .ok (.ireturn, 1) := by decide +kernel
theorem dL_capacityOf_14 : decode cL_capacityOf 14 = .ok (.iconst 0, 1) := by decide +kernel
theorem dL_capacityOf_15 : decode cL_capacityOf 15 = .ok (.ireturn, 1) := by decide +kernel
set_option maxRecDepth 20000 in
theorem ggL_turnsOf_X3_turnsOf : GoodIn wsL_turnsOf wsX3_turnsOf := goodIn_ca (goodIn_r _ [6, 7, 8, 9, 10, 5, 11, 12, 13, 14, 15, 16, 17, 18, 19, 20, 21, 22, 23, 24, 25, 26, 27, 28, 29, 30, 31, 32, 33, 34, 35] (by decide +kernel) (by decide +kernel)) (goodIn_sub (fun _ h => List.mem_cons_of_mem _ (List.mem_append_right _ h)) (by decide +kernel))
set_option maxRecDepth 20000 in
theorem gL_turnsOf_X3_turnsOf : GoodIn wsL_turnsOf (wsV RL 54 RX3 yX3_turnsOf wsX3_turnsOf) := goodIn_app (goodIn_of _ (by decide +kernel)) ggL_turnsOf_X3_turnsOf
theorem dL_turnsOf_0 : decode cL_turnsOf 0 = .ok (.aload_n 2, 1) := by decide +kernel
theorem dL_turnsOf_1 : decode cL_turnsOf 1 = .ok (.iconst 0, 1) := by decide +kernel
theorem dL_turnsOf_2 : decode cL_turnsOf 2 = .ok (.aload_n 0, 1) := by decide +kernel
theorem dL_turnsOf_3 : decode cL_turnsOf 3 = .ok (.iload_n 1, 1) := by decide +kernel
theorem dL_turnsOf_4 : decode cL_turnsOf 4 = .ok (.invokevirtual 54, 3) := by decide +kernel
theorem dL_turnsOf_7 : decode cL_turnsOf 7 = .ok (.i2l, 1) := by decide +kernel
theorem dL_turnsOf_8 : decode cL_turnsOf 8 = .ok (.lastore, 1) := by decide +kernel
theorem dL_turnsOf_9 : decode cL_turnsOf 9 = .ok (.goto 6, 3) := by decide +kernel
theorem dL_turnsOf_12 : decode cL_turnsOf 12 = .ok (.astore_n 3, 1) := by decide +kernel
theorem dL_turnsOf_13 : decode cL_turnsOf 13 = .ok (.iconst 1, 1) := by decide +kernel
theorem dL_turnsOf_14 : decode cL_turnsOf 14 = .ok (.ireturn, 1) := by decide +kernel
theorem dL_turnsOf_15 : decode cL_turnsOf 15 = .ok (.iconst 0, 1) := by decide +kernel
theorem dL_turnsOf_16 : decode cL_turnsOf 16 = .ok (.ireturn, 1) := by decide +kernel
set_option maxRecDepth 20000 in
theorem ggL_ready_X3_ready : GoodIn wsL_ready wsX3_ready := goodIn_ca (goodIn_r _ [6, 7, 8, 9, 5, 10, 11, 12, 13, 14, 15, 16, 17, 18, 19, 20, 21, 22, 23, 24, 25, 26, 27, 28, 29, 30, 31, 32, 33, 34, 35, 36, 37] (by decide +kernel) (by decide +kernel)) (goodIn_sub (fun _ h => List.mem_cons_of_mem _ (List.mem_append_right _ h)) (by decide +kernel))
set_option maxRecDepth 20000 in
theorem gL_ready_X3_ready : GoodIn wsL_ready (wsV RL 57 RX3 yX3_ready wsX3_ready) := goodIn_app (goodIn_of _ (by decide +kernel)) ggL_ready_X3_ready
theorem dL_ready_0 : decode cL_ready 0 = .ok (.aload_n 2, 1) := by decide +kernel
theorem dL_ready_1 : decode cL_ready 1 = .ok (.iconst 0, 1) := by decide +kernel
theorem dL_ready_2 : decode cL_ready 2 = .ok (.aload_n 0, 1) := by decide +kernel
theorem dL_ready_3 : decode cL_ready 3 = .ok (.iload_n 1, 1) := by decide +kernel
theorem dL_ready_4 : decode cL_ready 4 = .ok (.invokevirtual 57, 3) := by decide +kernel
theorem dL_ready_7 : decode cL_ready 7 = .ok (.i2l, 1) := by decide +kernel
theorem dL_ready_8 : decode cL_ready 8 = .ok (.lastore, 1) := by decide +kernel
theorem dL_ready_9 : decode cL_ready 9 = .ok (.goto 6, 3) := by decide +kernel
theorem dL_ready_12 : decode cL_ready 12 = .ok (.astore_n 3, 1) := by decide +kernel
theorem dL_ready_13 : decode cL_ready 13 = .ok (.iconst 1, 1) := by decide +kernel
theorem dL_ready_14 : decode cL_ready 14 = .ok (.ireturn, 1) := by decide +kernel
theorem dL_ready_15 : decode cL_ready 15 = .ok (.iconst 0, 1) := by decide +kernel
theorem dL_ready_16 : decode cL_ready 16 = .ok (.ireturn, 1) := by decide +kernel
set_option maxRecDepth 20000 in
theorem ggL_lightLeft_X3_lightLeft : GoodIn wsL_lightLeft wsX3_lightLeft := goodIn_ca (goodIn_r _ [6, 7, 8, 9, 10, 11, 5, 12, 13, 14, 15, 16, 17, 18, 19, 20, 21, 22, 23, 24, 25, 26, 27, 28, 29, 30, 31, 32, 33, 34, 35, 36, 37, 38, 39, 40, 41, 42, 43, 44, 45, 46, 47, 48] (by decide +kernel) (by decide +kernel)) (goodIn_sub (fun _ h => List.mem_cons_of_mem _ (List.mem_append_right _ h)) (by decide +kernel))
set_option maxRecDepth 20000 in
theorem gL_lightLeft_X3_lightLeft : GoodIn wsL_lightLeft (wsV RL 60 RX3 yX3_lightLeft wsX3_lightLeft) := goodIn_app (goodIn_of _ (by decide +kernel)) ggL_lightLeft_X3_lightLeft
theorem dL_lightLeft_0 : decode cL_lightLeft 0 = .ok (.aload_n 2, 1) := by decide +kernel
theorem dL_lightLeft_1 : decode cL_lightLeft 1 = .ok (.iconst 0, 1) := by decide +kernel
theorem dL_lightLeft_2 : decode cL_lightLeft 2 = .ok (.aload_n 0, 1) := by decide +kernel
theorem dL_lightLeft_3 : decode cL_lightLeft 3 = .ok (.iload_n 1, 1) := by decide +kernel
theorem dL_lightLeft_4 : decode cL_lightLeft 4 = .ok (.invokevirtual 60, 3) := by decide +kernel
theorem dL_lightLeft_7 : decode cL_lightLeft 7 = .ok (.i2l, 1) := by decide +kernel
theorem dL_lightLeft_8 : decode cL_lightLeft 8 = .ok (.lastore, 1) := by decide +kernel
theorem dL_lightLeft_9 : decode cL_lightLeft 9 = .ok (.goto 6, 3) := by decide +kernel
theorem dL_lightLeft_12 : decode cL_lightLeft 12 = .ok (.astore_n 3, 1) := by decide +kernel
theorem dL_lightLeft_13 : decode cL_lightLeft 13 = .ok (.iconst 1, 1) := by decide +kernel
theorem dL_lightLeft_14 : decode cL_lightLeft 14 = .ok (.ireturn, 1) := by decide +kernel
theorem dL_lightLeft_15 : decode cL_lightLeft 15 = .ok (.iconst 0, 1) := by decide +kernel
theorem dL_lightLeft_16 : decode cL_lightLeft 16 = .ok (.ireturn, 1) := by decide +kernel
set_option maxRecDepth 20000 in
theorem ggL_law_X3_init : GoodIn wsL_law wsX3_init := goodIn_r _ [10, 11, 12, 13, 14, 15, 16, 17, 18, 19, 20, 21, 22, 23, 24, 25, 26, 27, 28, 29, 30, 31, 32, 33, 34, 35, 7, 36, 37, 38, 39, 40, 41, 42, 43, 44, 45, 46, 47, 48, 49, 50, 51, 527, 528, 529, 530, 531, 532, 533, 506, 507, 508, 509, 534, 535, 536, 537, 538, 539, 540] (by decide +kernel) (by decide +kernel)
set_option maxRecDepth 20000 in
theorem gL_law_X3_init : GoodIn wsL_law (wsX3_init) := ggL_law_X3_init
set_option maxRecDepth 20000 in
theorem ggL_law_X4_init : GoodIn wsL_law wsX4_init := goodIn_r _ [54, 55, 12, 13, 30, 56, 57, 58, 34, 59, 7, 60, 61, 62, 63, 64, 65, 66, 510, 511, 512, 513, 514, 515, 516, 517, 518, 519, 520, 521, 522, 523, 524, 525, 526] (by decide +kernel) (by decide +kernel)
set_option maxRecDepth 20000 in
theorem gL_law_X4_init : GoodIn wsL_law (wsX4_init) := ggL_law_X4_init
set_option maxRecDepth 20000 in
theorem ggL_law_L_addLamp : GoodIn wsL_law wsL_addLamp := goodIn_ca (goodIn_ca (goodIn_r _ [70, 71, 72, 73, 74, 75, 2, 76, 77, 78, 17, 79, 80, 81, 82, 83, 84, 85, 86, 16, 87, 38, 88, 89, 90, 91, 31, 32, 37, 36, 92, 93, 94, 95, 96, 97, 506, 507, 508, 509, 527, 528, 529, 530, 531, 532, 533] (by decide +kernel) (by decide +kernel)) (goodIn_sub (fun _ h => List.mem_append_left _ (List.mem_append_left _ (List.mem_append_right _ h))) (by decide +kernel))) (goodIn_sub (fun _ h => List.mem_append_left _ (List.mem_append_right _ h)) (by decide +kernel))
set_option maxRecDepth 20000 in
theorem gL_law_L_addLamp : GoodIn wsL_law (va_wsS RL 67 yL_addLamp wsL_addLamp) := goodIn_app (goodIn_of _ (by decide +kernel)) ggL_law_L_addLamp
set_option maxRecDepth 20000 in
theorem ggL_law_X4_addLamp : GoodIn wsL_law wsX4_addLamp := goodIn_r _ [101, 102, 103, 56, 57, 60, 61, 104, 105, 5, 106, 107, 108, 109, 110, 111, 112, 510, 511, 512, 513, 514, 515, 516, 517, 518, 519, 520, 521, 522, 523, 524, 525, 526] (by decide +kernel) (by decide +kernel)
set_option maxRecDepth 20000 in
theorem gL_law_X4_addLamp : GoodIn wsL_law (wsV RL 72 RX4 yX4_addLamp wsX4_addLamp) := goodIn_app (goodIn_of _ (by decide +kernel)) ggL_law_X4_addLamp
set_option maxRecDepth 20000 in
theorem ggL_law_X4_thrown : GoodIn wsL_law wsX4_thrown := goodIn_r _ [116, 103, 510, 511, 512, 513, 514, 515, 516, 517, 518, 519, 520, 521, 522, 523, 524, 525, 526] (by decide +kernel) (by decide +kernel)
set_option maxRecDepth 20000 in
theorem gL_law_X4_thrown : GoodIn wsL_law (wsV RL 73 RX4 yX4_thrown wsX4_thrown) := goodIn_app (goodIn_of _ (by decide +kernel)) ggL_law_X4_thrown
set_option maxRecDepth 20000 in
theorem ggL_law_L_addMiner : GoodIn wsL_law wsL_addMiner := goodIn_ca (goodIn_ca (goodIn_r _ [119, 71, 72, 120, 121, 122, 2, 123, 77, 78, 21, 79, 80, 81, 82, 83, 124, 125, 126, 20, 127, 46, 128, 129, 130, 131, 42, 43, 506, 507, 508, 509, 534, 535, 536, 537, 538, 539] (by decide +kernel) (by decide +kernel)) (goodIn_sub (fun _ h => List.mem_append_left _ (List.mem_append_left _ (List.mem_append_right _ h))) (by decide +kernel))) (goodIn_sub (fun _ h => List.mem_append_left _ (List.mem_append_right _ h)) (by decide +kernel))
set_option maxRecDepth 20000 in
theorem gL_law_L_addMiner : GoodIn wsL_law (va_wsS RL 77 yL_addMiner wsL_addMiner) := goodIn_app (goodIn_of _ (by decide +kernel)) ggL_law_L_addMiner
set_option maxRecDepth 20000 in
theorem ggL_law_X4_addMiner : GoodIn wsL_law wsX4_addMiner := goodIn_r _ [135, 136, 103, 62, 63, 104, 105, 5, 106, 510, 511, 512, 513, 514, 515, 516, 517, 518, 519, 520, 521, 522, 523, 524, 525, 526] (by decide +kernel) (by decide +kernel)
set_option maxRecDepth 20000 in
theorem gL_law_X4_addMiner : GoodIn wsL_law (wsV RL 79 RX4 yX4_addMiner wsX4_addMiner) := goodIn_app (goodIn_of _ (by decide +kernel)) ggL_law_X4_addMiner
set_option maxRecDepth 20000 in
theorem ggL_law_L_issue : GoodIn wsL_law wsL_issue := goodIn_ca (goodIn_ca (goodIn_r _ [139, 140, 72, 141, 142, 143, 2, 144, 77, 78, 21, 17, 26, 145, 146, 147, 148, 149, 150, 124, 125, 126, 20, 127, 46, 151, 152, 153, 154, 43, 155, 156, 157, 158, 42, 159, 160, 161, 16, 162, 163, 164, 165, 166, 38, 36, 167, 168, 169, 170, 31, 32, 171, 172, 173, 174, 175, 176, 177, 178, 179, 44, 45, 47, 506, 507, 508, 509, 534, 535, 536, 537, 538, 539, 527, 528, 529, 530, 531, 532, 533] (by decide +kernel) (by decide +kernel)) (goodIn_sub (fun _ h => List.mem_append_left _ (List.mem_append_left _ (List.mem_append_right _ h))) (by decide +kernel))) (goodIn_sub (fun _ h => List.mem_append_right _ h) (by decide +kernel))
set_option maxRecDepth 20000 in
theorem gL_law_L_issue : GoodIn wsL_law (va_wsS RL 80 yL_issue wsL_issue) := goodIn_app (goodIn_of _ (by decide +kernel)) ggL_law_L_issue
set_option maxRecDepth 20000 in
theorem ggL_law_X4_issue : GoodIn wsL_law wsX4_issue := goodIn_r _ [183, 63, 62, 103, 57, 64, 184, 65, 185, 186, 187, 188, 5, 189, 136, 104, 105, 106, 190, 191, 192, 193, 102, 56, 60, 194, 195, 196, 197, 198, 510, 511, 512, 513, 514, 515, 516, 517, 518, 519, 520, 521, 522, 523, 524, 525, 526] (by decide +kernel) (by decide +kernel)
set_option maxRecDepth 20000 in
theorem gL_law_X4_issue : GoodIn wsL_law (wsV RL 82 RX4 yX4_issue wsX4_issue) := goodIn_app (goodIn_of _ (by decide +kernel)) ggL_law_X4_issue
set_option maxRecDepth 20000 in
theorem ggL_law_L_back : GoodIn wsL_law wsL_back := goodIn_ca (goodIn_ca (goodIn_r _ [201, 140, 72, 202, 203, 204, 2, 205, 77, 78, 21, 26, 17, 25, 145, 146, 147, 148, 149, 150, 124, 125, 126, 20, 127, 46, 151, 152, 153, 154, 43, 206, 207, 208, 209, 44, 210, 211, 212, 16, 213, 32, 33, 35, 37, 214, 36, 215, 216, 217, 218, 219, 220, 221, 24, 222, 51, 506, 507, 508, 509, 534, 535, 536, 537, 538, 539, 527, 528, 529, 530, 531, 532, 533, 540] (by decide +kernel) (by decide +kernel)) (goodIn_sub (fun _ h => List.mem_append_left _ (List.mem_append_left _ (List.mem_append_right _ h))) (by decide +kernel))) (goodIn_sub (fun _ h => List.mem_append_right _ h) (by decide +kernel))
set_option maxRecDepth 20000 in
theorem gL_law_L_back : GoodIn wsL_law (va_wsS RL 83 yL_back wsL_back) := goodIn_app (goodIn_of _ (by decide +kernel)) ggL_law_L_back
set_option maxRecDepth 20000 in
theorem ggL_law_X4_back : GoodIn wsL_law wsX4_back := goodIn_r _ [226, 63, 103, 57, 58, 61, 227, 60, 59, 184, 64, 186, 187, 188, 5, 189, 136, 104, 105, 106, 228, 229, 230, 231, 185, 65, 232, 66, 510, 511, 512, 513, 514, 515, 516, 517, 518, 519, 520, 521, 522, 523, 524, 525, 526] (by decide +kernel) (by decide +kernel)
set_option maxRecDepth 20000 in
theorem gL_law_X4_back : GoodIn wsL_law (wsV RL 85 RX4 yX4_back wsX4_back) := goodIn_app (goodIn_of _ (by decide +kernel)) ggL_law_X4_back
set_option maxRecDepth 20000 in
theorem ggL_law_L_test : GoodIn wsL_law wsL_test := goodIn_ca (goodIn_ca (goodIn_r _ [235, 140, 72, 236, 237, 238, 2, 239, 77, 78, 17, 240, 241, 242, 243, 149, 150, 84, 85, 86, 16, 87, 38, 244, 245, 246, 247, 32, 248, 249, 250, 251, 35, 37, 252, 31, 92, 93, 94, 95, 96, 97, 172, 173, 174, 175, 506, 507, 508, 509, 527, 528, 529, 530, 531, 532, 533] (by decide +kernel) (by decide +kernel)) (goodIn_sub (fun _ h => List.mem_append_left _ (List.mem_append_left _ (List.mem_append_right _ h))) (by decide +kernel))) (goodIn_sub (fun _ h => List.mem_append_right _ h) (by decide +kernel))
set_option maxRecDepth 20000 in
theorem gL_law_L_test : GoodIn wsL_law (va_wsS RL 86 yL_test wsL_test) := goodIn_app (goodIn_of _ (by decide +kernel)) ggL_law_L_test
set_option maxRecDepth 20000 in
theorem ggL_law_X4_test : GoodIn wsL_law wsX4_test := goodIn_r _ [256, 57, 103, 59, 257, 258, 259, 5, 260, 102, 104, 105, 106, 261, 262, 263, 264, 61, 265, 56, 107, 108, 109, 110, 111, 112, 510, 511, 512, 513, 514, 515, 516, 517, 518, 519, 520, 521, 522, 523, 524, 525, 526] (by decide +kernel) (by decide +kernel)
set_option maxRecDepth 20000 in
theorem gL_law_X4_test : GoodIn wsL_law (wsV RL 88 RX4 yX4_test wsX4_test) := goodIn_app (goodIn_of _ (by decide +kernel)) ggL_law_X4_test
set_option maxRecDepth 20000 in
theorem ggL_law_L_mend : GoodIn wsL_law wsL_mend := goodIn_ca (goodIn_ca (goodIn_r _ [268, 140, 72, 269, 270, 271, 2, 272, 77, 78, 17, 240, 241, 242, 243, 149, 150, 84, 85, 86, 16, 87, 38, 244, 245, 246, 247, 32, 273, 274, 275, 276, 35, 248, 249, 250, 251, 37, 252, 31, 92, 93, 94, 95, 96, 97, 172, 173, 174, 175, 506, 507, 508, 509, 527, 528, 529, 530, 531, 532, 533] (by decide +kernel) (by decide +kernel)) (goodIn_sub (fun _ h => List.mem_append_left _ (List.mem_append_left _ (List.mem_append_right _ h))) (by decide +kernel))) (goodIn_sub (fun _ h => List.mem_append_right _ h) (by decide +kernel))
set_option maxRecDepth 20000 in
theorem gL_law_L_mend : GoodIn wsL_law (va_wsS RL 89 yL_mend wsL_mend) := goodIn_app (goodIn_of _ (by decide +kernel)) ggL_law_L_mend
set_option maxRecDepth 20000 in
theorem ggL_law_X4_mend : GoodIn wsL_law wsX4_mend := goodIn_r _ [280, 57, 103, 59, 257, 258, 259, 5, 260, 102, 104, 105, 106, 261, 262, 263, 264, 61, 265, 56, 107, 108, 109, 110, 111, 112, 510, 511, 512, 513, 514, 515, 516, 517, 518, 519, 520, 521, 522, 523, 524, 525, 526] (by decide +kernel) (by decide +kernel)
set_option maxRecDepth 20000 in
theorem gL_law_X4_mend : GoodIn wsL_law (wsV RL 91 RX4 yX4_mend wsX4_mend) := goodIn_app (goodIn_of _ (by decide +kernel)) ggL_law_X4_mend
set_option maxRecDepth 20000 in
theorem ggL_law_L_hours : GoodIn wsL_law wsL_hours := goodIn_ca (goodIn_r _ [283, 71, 284, 285, 286, 2, 287, 82, 83, 288, 289, 290, 291, 26, 17, 21, 292, 293, 294, 16, 295, 38, 32, 35, 296, 36, 297, 298, 299, 300, 37, 301, 124, 125, 126, 20, 127, 46, 151, 152, 153, 154, 43, 302, 303, 304, 305, 25, 206, 207, 208, 209, 44, 306, 307, 308, 24, 309, 51, 310, 311, 312, 313, 506, 507, 508, 509, 527, 528, 529, 530, 531, 532, 533, 534, 535, 536, 537, 538, 539, 540] (by decide +kernel) (by decide +kernel)) (goodIn_sub (fun _ h => List.mem_append_left _ (List.mem_append_right _ h)) (by decide +kernel))
set_option maxRecDepth 20000 in
theorem gL_law_L_hours : GoodIn wsL_law (va_wsS RL 92 yL_hours wsL_hours) := goodIn_app (goodIn_of _ (by decide +kernel)) ggL_law_L_hours
set_option maxRecDepth 20000 in
theorem ggL_law_X4_hours : GoodIn wsL_law wsX4_hours := goodIn_r _ [317, 103, 104, 105, 5, 106, 318, 319, 320, 321, 102, 57, 60, 59, 322, 61, 323, 184, 136, 63, 64, 324, 325, 326, 327, 66, 232, 328, 329, 330, 331, 510, 511, 512, 513, 514, 515, 516, 517, 518, 519, 520, 521, 522, 523, 524, 525, 526] (by decide +kernel) (by decide +kernel)
set_option maxRecDepth 20000 in
theorem gL_law_X4_hours : GoodIn wsL_law (wsV RL 94 RX4 yX4_hours wsX4_hours) := goodIn_app (goodIn_of _ (by decide +kernel)) ggL_law_X4_hours
set_option maxRecDepth 20000 in
theorem ggL_law_X3_below : GoodIn wsL_law wsX3_below := goodIn_r _ [335, 21, 336, 337, 338, 20, 339, 46, 43, 506, 507, 508, 509, 534, 535, 536, 537, 538, 539] (by decide +kernel) (by decide +kernel)
set_option maxRecDepth 20000 in
theorem gL_law_X3_below : GoodIn wsL_law (wsV RL 95 RX3 yX3_below wsX3_below) := goodIn_app (goodIn_of _ (by decide +kernel)) ggL_law_X3_below
set_option maxRecDepth 20000 in
theorem ggL_law_X4_below : GoodIn wsL_law wsX4_below := goodIn_r _ [343, 103, 185, 510, 511, 512, 513, 514, 515, 516, 517, 518, 519, 520, 521, 522, 523, 524, 525, 526] (by decide +kernel) (by decide +kernel)
set_option maxRecDepth 20000 in
theorem gL_law_X4_below : GoodIn wsL_law (wsV RL 98 RX4 yX4_below wsX4_below) := goodIn_app (goodIn_of _ (by decide +kernel)) ggL_law_X4_below
set_option maxRecDepth 20000 in
theorem ggL_law_X3_board : GoodIn wsL_law wsX3_board := goodIn_r _ [347, 21, 348, 349, 350, 20, 351, 46, 43, 352, 353, 354, 355, 45, 506, 507, 508, 509, 534, 535, 536, 537, 538, 539] (by decide +kernel) (by decide +kernel)
set_option maxRecDepth 20000 in
theorem gL_law_X3_board : GoodIn wsL_law (wsV RL 99 RX3 yX3_board wsX3_board) := goodIn_app (goodIn_of _ (by decide +kernel)) ggL_law_X3_board
set_option maxRecDepth 20000 in
theorem ggL_law_X4_board : GoodIn wsL_law wsX4_board := goodIn_r _ [359, 103, 185, 65, 104, 105, 5, 106, 510, 511, 512, 513, 514, 515, 516, 517, 518, 519, 520, 521, 522, 523, 524, 525, 526] (by decide +kernel) (by decide +kernel)
set_option maxRecDepth 20000 in
theorem gL_law_X4_board : GoodIn wsL_law (wsV RL 102 RX4 yX4_board wsX4_board) := goodIn_app (goodIn_of _ (by decide +kernel)) ggL_law_X4_board
set_option maxRecDepth 20000 in
theorem ggL_law_L_lampOf : GoodIn wsL_law wsL_lampOf := goodIn_ca (goodIn_r _ [362, 140, 363, 364, 365, 2, 366, 21, 145, 146, 147, 148, 149, 150, 124, 125, 126, 20, 127, 46, 151, 152, 153, 154, 43, 506, 507, 508, 509, 534, 535, 536, 537, 538, 539] (by decide +kernel) (by decide +kernel)) (goodIn_sub (fun _ h => List.mem_append_right _ h) (by decide +kernel))
set_option maxRecDepth 20000 in
theorem gL_law_L_lampOf : GoodIn wsL_law (va_wsS RL 103 yL_lampOf wsL_lampOf) := goodIn_app (goodIn_of _ (by decide +kernel)) ggL_law_L_lampOf
set_option maxRecDepth 20000 in
theorem ggL_law_X4_lampOf : GoodIn wsL_law wsX4_lampOf := goodIn_r _ [370, 103, 63, 186, 187, 188, 5, 189, 136, 104, 105, 106, 510, 511, 512, 513, 514, 515, 516, 517, 518, 519, 520, 521, 522, 523, 524, 525, 526] (by decide +kernel) (by decide +kernel)
set_option maxRecDepth 20000 in
theorem gL_law_X4_lampOf : GoodIn wsL_law (wsV RL 105 RX4 yX4_lampOf wsX4_lampOf) := goodIn_app (goodIn_of _ (by decide +kernel)) ggL_law_X4_lampOf
set_option maxRecDepth 20000 in
theorem ggL_law_L_hoursBelow : GoodIn wsL_law wsL_hoursBelow := goodIn_ca (goodIn_r _ [373, 140, 374, 375, 376, 2, 377, 21, 26, 145, 146, 147, 148, 149, 150, 124, 125, 126, 20, 127, 46, 151, 152, 153, 154, 43, 206, 207, 208, 209, 44, 506, 507, 508, 509, 534, 535, 536, 537, 538, 539] (by decide +kernel) (by decide +kernel)) (goodIn_sub (fun _ h => List.mem_append_right _ h) (by decide +kernel))
set_option maxRecDepth 20000 in
theorem gL_law_L_hoursBelow : GoodIn wsL_law (va_wsS RL 106 yL_hoursBelow wsL_hoursBelow) := goodIn_app (goodIn_of _ (by decide +kernel)) ggL_law_L_hoursBelow
set_option maxRecDepth 20000 in
theorem ggL_law_X4_hoursBelow : GoodIn wsL_law wsX4_hoursBelow := goodIn_r _ [381, 103, 63, 184, 64, 186, 187, 188, 5, 189, 136, 104, 105, 106, 510, 511, 512, 513, 514, 515, 516, 517, 518, 519, 520, 521, 522, 523, 524, 525, 526] (by decide +kernel) (by decide +kernel)
set_option maxRecDepth 20000 in
theorem gL_law_X4_hoursBelow : GoodIn wsL_law (wsV RL 108 RX4 yX4_hoursBelow wsX4_hoursBelow) := goodIn_app (goodIn_of _ (by decide +kernel)) ggL_law_X4_hoursBelow
set_option maxRecDepth 20000 in
theorem ggL_law_L_placeOf : GoodIn wsL_law wsL_placeOf := goodIn_ca (goodIn_r _ [384, 140, 385, 386, 387, 2, 388, 17, 240, 241, 242, 243, 149, 150, 84, 85, 86, 16, 87, 38, 244, 245, 246, 247, 32, 506, 507, 508, 509, 527, 528, 529, 530, 531, 532, 533] (by decide +kernel) (by decide +kernel)) (goodIn_sub (fun _ h => List.mem_append_right _ h) (by decide +kernel))
set_option maxRecDepth 20000 in
theorem gL_law_L_placeOf : GoodIn wsL_law (va_wsS RL 109 yL_placeOf wsL_placeOf) := goodIn_app (goodIn_of _ (by decide +kernel)) ggL_law_L_placeOf
set_option maxRecDepth 20000 in
theorem ggL_law_X4_placeOf : GoodIn wsL_law wsX4_placeOf := goodIn_r _ [392, 103, 57, 257, 258, 259, 5, 260, 102, 104, 105, 106, 510, 511, 512, 513, 514, 515, 516, 517, 518, 519, 520, 521, 522, 523, 524, 525, 526] (by decide +kernel) (by decide +kernel)
set_option maxRecDepth 20000 in
theorem gL_law_X4_placeOf : GoodIn wsL_law (wsV RL 111 RX4 yX4_placeOf wsX4_placeOf) := goodIn_app (goodIn_of _ (by decide +kernel)) ggL_law_X4_placeOf
set_option maxRecDepth 20000 in
theorem ggL_law_L_chargeOf : GoodIn wsL_law wsL_chargeOf := goodIn_ca (goodIn_r _ [395, 140, 396, 397, 398, 2, 399, 17, 240, 241, 242, 243, 149, 150, 84, 85, 86, 16, 87, 38, 310, 311, 312, 313, 36, 506, 507, 508, 509, 527, 528, 529, 530, 531, 532, 533] (by decide +kernel) (by decide +kernel)) (goodIn_sub (fun _ h => List.mem_append_right _ h) (by decide +kernel))
set_option maxRecDepth 20000 in
theorem gL_law_L_chargeOf : GoodIn wsL_law (va_wsS RL 112 yL_chargeOf wsL_chargeOf) := goodIn_app (goodIn_of _ (by decide +kernel)) ggL_law_L_chargeOf
set_option maxRecDepth 20000 in
theorem ggL_law_X4_chargeOf : GoodIn wsL_law wsX4_chargeOf := goodIn_r _ [403, 103, 60, 257, 258, 259, 5, 260, 102, 104, 105, 106, 510, 511, 512, 513, 514, 515, 516, 517, 518, 519, 520, 521, 522, 523, 524, 525, 526] (by decide +kernel) (by decide +kernel)
set_option maxRecDepth 20000 in
theorem gL_law_X4_chargeOf : GoodIn wsL_law (wsV RL 115 RX4 yX4_chargeOf wsX4_chargeOf) := goodIn_app (goodIn_of _ (by decide +kernel)) ggL_law_X4_chargeOf
set_option maxRecDepth 20000 in
theorem ggL_law_L_capacityOf : GoodIn wsL_law wsL_capacityOf := goodIn_ca (goodIn_r _ [406, 140, 407, 408, 409, 2, 410, 17, 240, 241, 242, 243, 149, 150, 84, 85, 86, 16, 87, 38, 411, 412, 413, 414, 37, 506, 507, 508, 509, 527, 528, 529, 530, 531, 532, 533] (by decide +kernel) (by decide +kernel)) (goodIn_sub (fun _ h => List.mem_append_right _ h) (by decide +kernel))
set_option maxRecDepth 20000 in
theorem gL_law_L_capacityOf : GoodIn wsL_law (va_wsS RL 116 yL_capacityOf wsL_capacityOf) := goodIn_app (goodIn_of _ (by decide +kernel)) ggL_law_L_capacityOf
set_option maxRecDepth 20000 in
theorem ggL_law_X4_capacityOf : GoodIn wsL_law wsX4_capacityOf := goodIn_r _ [418, 103, 61, 257, 258, 259, 5, 260, 102, 104, 105, 106, 510, 511, 512, 513, 514, 515, 516, 517, 518, 519, 520, 521, 522, 523, 524, 525, 526] (by decide +kernel) (by decide +kernel)
set_option maxRecDepth 20000 in
theorem gL_law_X4_capacityOf : GoodIn wsL_law (wsV RL 118 RX4 yX4_capacityOf wsX4_capacityOf) := goodIn_app (goodIn_of _ (by decide +kernel)) ggL_law_X4_capacityOf
set_option maxRecDepth 20000 in
theorem ggL_law_L_turnsOf : GoodIn wsL_law wsL_turnsOf := goodIn_ca (goodIn_r _ [421, 140, 422, 423, 424, 2, 425, 17, 240, 241, 242, 243, 149, 150, 84, 85, 86, 16, 87, 38, 426, 427, 428, 429, 33, 506, 507, 508, 509, 527, 528, 529, 530, 531, 532, 533] (by decide +kernel) (by decide +kernel)) (goodIn_sub (fun _ h => List.mem_append_right _ h) (by decide +kernel))
set_option maxRecDepth 20000 in
theorem gL_law_L_turnsOf : GoodIn wsL_law (va_wsS RL 119 yL_turnsOf wsL_turnsOf) := goodIn_app (goodIn_of _ (by decide +kernel)) ggL_law_L_turnsOf
set_option maxRecDepth 20000 in
theorem ggL_law_X4_turnsOf : GoodIn wsL_law wsX4_turnsOf := goodIn_r _ [433, 103, 58, 257, 258, 259, 5, 260, 102, 104, 105, 106, 510, 511, 512, 513, 514, 515, 516, 517, 518, 519, 520, 521, 522, 523, 524, 525, 526] (by decide +kernel) (by decide +kernel)
set_option maxRecDepth 20000 in
theorem gL_law_X4_turnsOf : GoodIn wsL_law (wsV RL 121 RX4 yX4_turnsOf wsX4_turnsOf) := goodIn_app (goodIn_of _ (by decide +kernel)) ggL_law_X4_turnsOf
set_option maxRecDepth 20000 in
theorem ggL_law_L_ready : GoodIn wsL_law wsL_ready := goodIn_ca (goodIn_r _ [436, 71, 437, 438, 439, 2, 440, 17, 79, 80, 81, 82, 83, 441, 442, 443, 16, 444, 38, 167, 168, 169, 170, 31, 32, 36, 171, 506, 507, 508, 509, 527, 528, 529, 530, 531, 532, 533] (by decide +kernel) (by decide +kernel)) (goodIn_sub (fun _ h => List.mem_append_left _ (List.mem_append_right _ h)) (by decide +kernel))
set_option maxRecDepth 20000 in
theorem gL_law_L_ready : GoodIn wsL_law (va_wsS RL 122 yL_ready wsL_ready) := goodIn_app (goodIn_of _ (by decide +kernel)) ggL_law_L_ready
set_option maxRecDepth 20000 in
theorem ggL_law_X4_ready : GoodIn wsL_law wsX4_ready := goodIn_r _ [448, 103, 102, 56, 104, 105, 5, 106, 194, 195, 196, 197, 57, 60, 198, 510, 511, 512, 513, 514, 515, 516, 517, 518, 519, 520, 521, 522, 523, 524, 525, 526] (by decide +kernel) (by decide +kernel)
set_option maxRecDepth 20000 in
theorem gL_law_X4_ready : GoodIn wsL_law (wsV RL 124 RX4 yX4_ready wsX4_ready) := goodIn_app (goodIn_of _ (by decide +kernel)) ggL_law_X4_ready
set_option maxRecDepth 20000 in
theorem ggL_law_X3_spares : GoodIn wsL_law wsX3_spares := goodIn_r _ [452, 21, 17, 124, 125, 126, 20, 127, 46, 151, 152, 153, 154, 43, 453, 454, 455, 16, 456, 31, 155, 156, 157, 158, 42, 506, 507, 508, 509, 534, 535, 536, 537, 538, 539, 527, 528, 529, 530, 531, 532, 533] (by decide +kernel) (by decide +kernel)
set_option maxRecDepth 20000 in
theorem gL_law_X3_spares : GoodIn wsL_law (wsV RL 125 RX3 yX3_spares wsX3_spares) := goodIn_app (goodIn_of _ (by decide +kernel)) ggL_law_X3_spares
set_option maxRecDepth 20000 in
theorem ggL_law_X4_spares : GoodIn wsL_law wsX4_spares := goodIn_r _ [460, 103, 185, 56, 63, 65, 62, 510, 511, 512, 513, 514, 515, 516, 517, 518, 519, 520, 521, 522, 523, 524, 525, 526] (by decide +kernel) (by decide +kernel)
set_option maxRecDepth 20000 in
theorem gL_law_X4_spares : GoodIn wsL_law (wsV RL 128 RX4 yX4_spares wsX4_spares) := goodIn_app (goodIn_of _ (by decide +kernel)) ggL_law_X4_spares
set_option maxRecDepth 20000 in
theorem ggL_law_X3_alarm : GoodIn wsL_law wsX3_alarm := goodIn_r _ [464, 25, 465, 466, 467, 24, 468, 51, 469, 470, 471, 472, 473, 474, 475, 476, 506, 507, 508, 509, 540] (by decide +kernel) (by decide +kernel)
set_option maxRecDepth 20000 in
theorem gL_law_X3_alarm : GoodIn wsL_law (wsV RL 129 RX3 yX3_alarm wsX3_alarm) := goodIn_app (goodIn_of _ (by decide +kernel)) ggL_law_X3_alarm
set_option maxRecDepth 20000 in
theorem ggL_law_X4_alarm : GoodIn wsL_law wsX4_alarm := goodIn_r _ [480, 103, 232, 66, 104, 105, 5, 106, 510, 511, 512, 513, 514, 515, 516, 517, 518, 519, 520, 521, 522, 523, 524, 525, 526] (by decide +kernel) (by decide +kernel)
set_option maxRecDepth 20000 in
theorem gL_law_X4_alarm : GoodIn wsL_law (wsV RL 132 RX4 yX4_alarm wsX4_alarm) := goodIn_app (goodIn_of _ (by decide +kernel)) ggL_law_X4_alarm
set_option maxRecDepth 20000 in
theorem ggL_law_L_lightLeft : GoodIn wsL_law wsL_lightLeft := goodIn_ca (goodIn_r _ [483, 140, 484, 485, 486, 2, 487, 21, 17, 145, 146, 147, 148, 149, 150, 124, 125, 126, 20, 127, 46, 151, 152, 153, 154, 43, 310, 311, 312, 16, 313, 36, 506, 507, 508, 509, 534, 535, 536, 537, 538, 539, 527, 528, 529, 530, 531, 532, 533] (by decide +kernel) (by decide +kernel)) (goodIn_sub (fun _ h => List.mem_append_right _ h) (by decide +kernel))
set_option maxRecDepth 20000 in
theorem gL_law_L_lightLeft : GoodIn wsL_law (va_wsS RL 133 yL_lightLeft wsL_lightLeft) := goodIn_app (goodIn_of _ (by decide +kernel)) ggL_law_L_lightLeft
set_option maxRecDepth 20000 in
theorem ggL_law_X4_lightLeft : GoodIn wsL_law wsX4_lightLeft := goodIn_r _ [491, 103, 63, 60, 186, 187, 188, 5, 189, 136, 104, 105, 106, 510, 511, 512, 513, 514, 515, 516, 517, 518, 519, 520, 521, 522, 523, 524, 525, 526] (by decide +kernel) (by decide +kernel)
set_option maxRecDepth 20000 in
theorem gL_law_X4_lightLeft : GoodIn wsL_law (wsV RL 135 RX4 yX4_lightLeft wsX4_lightLeft) := goodIn_app (goodIn_of _ (by decide +kernel)) ggL_law_X4_lightLeft
set_option maxRecDepth 20000 in
theorem ggL_law_X3_rackCharge : GoodIn wsL_law wsX3_rackCharge := goodIn_r _ [495, 17, 496, 497, 498, 16, 499, 38, 32, 36, 37, 500, 506, 507, 508, 509, 527, 528, 529, 530, 531, 532, 533] (by decide +kernel) (by decide +kernel)
set_option maxRecDepth 20000 in
theorem gL_law_X3_rackCharge : GoodIn wsL_law (wsV RL 136 RX3 yX3_rackCharge wsX3_rackCharge) := goodIn_app (goodIn_of _ (by decide +kernel)) ggL_law_X3_rackCharge
set_option maxRecDepth 20000 in
theorem ggL_law_X4_rackCharge : GoodIn wsL_law wsX4_rackCharge := goodIn_r _ [504, 103, 102, 57, 60, 61, 505, 510, 511, 512, 513, 514, 515, 516, 517, 518, 519, 520, 521, 522, 523, 524, 525, 526] (by decide +kernel) (by decide +kernel)
set_option maxRecDepth 20000 in
theorem gL_law_X4_rackCharge : GoodIn wsL_law (wsV RL 139 RX4 yX4_rackCharge wsX4_rackCharge) := goodIn_app (goodIn_of _ (by decide +kernel)) ggL_law_X4_rackCharge
theorem dL_law_0 : decode cL_law 0 = .ok (.new 8, 3) := by decide +kernel
theorem dL_law_3 : decode cL_law 3 = .ok (.dup, 1) := by decide +kernel
theorem dL_law_4 : decode cL_law 4 = .ok (.invokespecial 63, 3) := by decide +kernel
theorem dL_law_7 : decode cL_law 7 = .ok (.astore_n 1, 1) := by decide +kernel
theorem dL_law_8 : decode cL_law 8 = .ok (.new 64, 3) := by decide +kernel
theorem dL_law_11 : decode cL_law 11 = .ok (.dup, 1) := by decide +kernel
theorem dL_law_12 : decode cL_law 12 = .ok (.invokespecial 66, 3) := by decide +kernel
theorem dL_law_15 : decode cL_law 15 = .ok (.astore_n 2, 1) := by decide +kernel
theorem dL_law_16 : decode cL_law 16 = .ok (.iconst 1, 1) := by decide +kernel
theorem dL_law_17 : decode cL_law 17 = .ok (.newarray .long, 2) := by decide +kernel
theorem dL_law_19 : decode cL_law 19 = .ok (.astore_n 3, 1) := by decide +kernel
theorem dL_law_20 : decode cL_law 20 = .ok (.iconst 1, 1) := by decide +kernel
theorem dL_law_21 : decode cL_law 21 = .ok (.newarray .double, 2) := by decide +kernel
theorem dL_law_23 : decode cL_law 23 = .ok (.astore 4, 2) := by decide +kernel
theorem dL_law_25 : decode cL_law 25 = .ok (.iconst 0, 1) := by decide +kernel
theorem dL_law_26 : decode cL_law 26 = .ok (.istore 5, 2) := by decide +kernel
theorem dL_law_28 : decode cL_law 28 = .ok (.iload 5, 2) := by decide +kernel
theorem dL_law_30 : decode cL_law 30 = .ok (.aload_n 0, 1) := by decide +kernel
theorem dL_law_31 : decode cL_law 31 = .ok (.arraylength, 1) := by decide +kernel
theorem dL_law_32 : decode cL_law 32 = .ok (.iconst 2, 1) := by decide +kernel
theorem dL_law_33 : decode cL_law 33 = .ok (.isub, 1) := by decide +kernel
theorem dL_law_34 : decode cL_law 34 = .ok (.if_icmp .gt 1090, 3) := by decide +kernel
theorem dL_law_37 : decode cL_law 37 = .ok (.aload_n 0, 1) := by decide +kernel
theorem dL_law_38 : decode cL_law 38 = .ok (.iload 5, 2) := by decide +kernel
theorem dL_law_40 : decode cL_law 40 = .ok (.iaload, 1) := by decide +kernel
theorem dL_law_41 : decode cL_law 41 = .ok (.bipush 31, 2) := by decide +kernel
theorem dL_law_43 : decode cL_law 43 = .ok (.iand, 1) := by decide +kernel
theorem dL_law_44 : decode cL_law 44 = .ok (.tableswitch 1074 0 19 #[96, 152, 208, 264, 320, 376, 439, 495, 508, 533, 589, 645, 701, 778, 855, 911, 967, 980, 1005, 1061], 96) := by decide +kernel
theorem dL_law_140 : decode cL_law 140 = .ok (.aload_n 1, 1) := by decide +kernel
theorem dL_law_141 : decode cL_law 141 = .ok (.aload_n 0, 1) := by decide +kernel
theorem dL_law_142 : decode cL_law 142 = .ok (.iload 5, 2) := by decide +kernel
theorem dL_law_144 : decode cL_law 144 = .ok (.iconst 1, 1) := by decide +kernel
theorem dL_law_145 : decode cL_law 145 = .ok (.iadd, 1) := by decide +kernel
theorem dL_law_146 : decode cL_law 146 = .ok (.iaload, 1) := by decide +kernel
theorem dL_law_147 : decode cL_law 147 = .ok (.aload_n 3, 1) := by decide +kernel
theorem dL_law_148 : decode cL_law 148 = .ok (.invokestatic 67, 3) := by decide +kernel
theorem dL_law_151 : decode cL_law 151 = .ok (.istore 6, 2) := by decide +kernel
theorem dL_law_153 : decode cL_law 153 = .ok (.aload_n 2, 1) := by decide +kernel
theorem dL_law_154 : decode cL_law 154 = .ok (.aload_n 0, 1) := by decide +kernel
theorem dL_law_155 : decode cL_law 155 = .ok (.iload 5, 2) := by decide +kernel
theorem dL_law_157 : decode cL_law 157 = .ok (.iconst 1, 1) := by decide +kernel
theorem dL_law_158 : decode cL_law 158 = .ok (.iadd, 1) := by decide +kernel
theorem dL_law_159 : decode cL_law 159 = .ok (.iaload, 1) := by decide +kernel
theorem dL_law_160 : decode cL_law 160 = .ok (.invokevirtual 72, 3) := by decide +kernel
theorem dL_law_163 : decode cL_law 163 = .ok (.istore 7, 2) := by decide +kernel
theorem dL_law_165 : decode cL_law 165 = .ok (.aload_n 2, 1) := by decide +kernel
theorem dL_law_166 : decode cL_law 166 = .ok (.invokevirtual 73, 3) := by decide +kernel
theorem dL_law_169 : decode cL_law 169 = .ok (.iload 6, 2) := by decide +kernel
theorem dL_law_171 : decode cL_law 171 = .ok (.if_icmp .eq 5, 3) := by decide +kernel
theorem dL_law_174 : decode cL_law 174 = .ok (.iconst 0, 1) := by decide +kernel
theorem dL_law_175 : decode cL_law 175 = .ok (.ireturn, 1) := by decide +kernel
theorem dL_law_176 : decode cL_law 176 = .ok (.iload 6, 2) := by decide +kernel
theorem dL_law_178 : decode cL_law 178 = .ok (.ifCond .ne 15, 3) := by decide +kernel
theorem dL_law_181 : decode cL_law 181 = .ok (.aload_n 3, 1) := by decide +kernel
theorem dL_law_182 : decode cL_law 182 = .ok (.iconst 0, 1) := by decide +kernel
theorem dL_law_183 : decode cL_law 183 = .ok (.laload, 1) := by decide +kernel
theorem dL_law_184 : decode cL_law 184 = .ok (.iload 7, 2) := by decide +kernel
theorem dL_law_186 : decode cL_law 186 = .ok (.i2l, 1) := by decide +kernel
theorem dL_law_187 : decode cL_law 187 = .ok (.lcmp, 1) := by decide +kernel
theorem dL_law_188 : decode cL_law 188 = .ok (.ifCond .eq 5, 3) := by decide +kernel
theorem dL_law_191 : decode cL_law 191 = .ok (.iconst 0, 1) := by decide +kernel
theorem dL_law_192 : decode cL_law 192 = .ok (.ireturn, 1) := by decide +kernel
theorem dL_law_193 : decode cL_law 193 = .ok (.goto 925, 3) := by decide +kernel
theorem dL_law_196 : decode cL_law 196 = .ok (.aload_n 1, 1) := by decide +kernel
theorem dL_law_197 : decode cL_law 197 = .ok (.aload_n 0, 1) := by decide +kernel
theorem dL_law_198 : decode cL_law 198 = .ok (.iload 5, 2) := by decide +kernel
theorem dL_law_200 : decode cL_law 200 = .ok (.iconst 1, 1) := by decide +kernel
theorem dL_law_201 : decode cL_law 201 = .ok (.iadd, 1) := by decide +kernel
theorem dL_law_202 : decode cL_law 202 = .ok (.iaload, 1) := by decide +kernel
theorem dL_law_203 : decode cL_law 203 = .ok (.aload_n 3, 1) := by decide +kernel
theorem dL_law_204 : decode cL_law 204 = .ok (.invokestatic 77, 3) := by decide +kernel
theorem dL_law_207 : decode cL_law 207 = .ok (.istore 6, 2) := by decide +kernel
theorem dL_law_209 : decode cL_law 209 = .ok (.aload_n 2, 1) := by decide +kernel
theorem dL_law_210 : decode cL_law 210 = .ok (.aload_n 0, 1) := by decide +kernel
theorem dL_law_211 : decode cL_law 211 = .ok (.iload 5, 2) := by decide +kernel
theorem dL_law_213 : decode cL_law 213 = .ok (.iconst 1, 1) := by decide +kernel
theorem dL_law_214 : decode cL_law 214 = .ok (.iadd, 1) := by decide +kernel
theorem dL_law_215 : decode cL_law 215 = .ok (.iaload, 1) := by decide +kernel
theorem dL_law_216 : decode cL_law 216 = .ok (.invokevirtual 79, 3) := by decide +kernel
theorem dL_law_219 : decode cL_law 219 = .ok (.istore 7, 2) := by decide +kernel
theorem dL_law_221 : decode cL_law 221 = .ok (.aload_n 2, 1) := by decide +kernel
theorem dL_law_222 : decode cL_law 222 = .ok (.invokevirtual 73, 3) := by decide +kernel
theorem dL_law_225 : decode cL_law 225 = .ok (.iload 6, 2) := by decide +kernel
theorem dL_law_227 : decode cL_law 227 = .ok (.if_icmp .eq 5, 3) := by decide +kernel
theorem dL_law_230 : decode cL_law 230 = .ok (.iconst 0, 1) := by decide +kernel
theorem dL_law_231 : decode cL_law 231 = .ok (.ireturn, 1) := by decide +kernel
theorem dL_law_232 : decode cL_law 232 = .ok (.iload 6, 2) := by decide +kernel
theorem dL_law_234 : decode cL_law 234 = .ok (.ifCond .ne 15, 3) := by decide +kernel
theorem dL_law_237 : decode cL_law 237 = .ok (.aload_n 3, 1) := by decide +kernel
theorem dL_law_238 : decode cL_law 238 = .ok (.iconst 0, 1) := by decide +kernel
theorem dL_law_239 : decode cL_law 239 = .ok (.laload, 1) := by decide +kernel
theorem dL_law_240 : decode cL_law 240 = .ok (.iload 7, 2) := by decide +kernel
theorem dL_law_242 : decode cL_law 242 = .ok (.i2l, 1) := by decide +kernel
theorem dL_law_243 : decode cL_law 243 = .ok (.lcmp, 1) := by decide +kernel
theorem dL_law_244 : decode cL_law 244 = .ok (.ifCond .eq 5, 3) := by decide +kernel
theorem dL_law_247 : decode cL_law 247 = .ok (.iconst 0, 1) := by decide +kernel
theorem dL_law_248 : decode cL_law 248 = .ok (.ireturn, 1) := by decide +kernel
theorem dL_law_249 : decode cL_law 249 = .ok (.goto 869, 3) := by decide +kernel
theorem dL_law_252 : decode cL_law 252 = .ok (.aload_n 1, 1) := by decide +kernel
theorem dL_law_253 : decode cL_law 253 = .ok (.aload_n 0, 1) := by decide +kernel
theorem dL_law_254 : decode cL_law 254 = .ok (.iload 5, 2) := by decide +kernel
theorem dL_law_256 : decode cL_law 256 = .ok (.iconst 1, 1) := by decide +kernel
theorem dL_law_257 : decode cL_law 257 = .ok (.iadd, 1) := by decide +kernel
theorem dL_law_258 : decode cL_law 258 = .ok (.iaload, 1) := by decide +kernel
theorem dL_law_259 : decode cL_law 259 = .ok (.aload_n 3, 1) := by decide +kernel
theorem dL_law_260 : decode cL_law 260 = .ok (.invokestatic 80, 3) := by decide +kernel
theorem dL_law_263 : decode cL_law 263 = .ok (.istore 6, 2) := by decide +kernel
theorem dL_law_265 : decode cL_law 265 = .ok (.aload_n 2, 1) := by decide +kernel
theorem dL_law_266 : decode cL_law 266 = .ok (.aload_n 0, 1) := by decide +kernel
theorem dL_law_267 : decode cL_law 267 = .ok (.iload 5, 2) := by decide +kernel
theorem dL_law_269 : decode cL_law 269 = .ok (.iconst 1, 1) := by decide +kernel
theorem dL_law_270 : decode cL_law 270 = .ok (.iadd, 1) := by decide +kernel
theorem dL_law_271 : decode cL_law 271 = .ok (.iaload, 1) := by decide +kernel
theorem dL_law_272 : decode cL_law 272 = .ok (.invokevirtual 82, 3) := by decide +kernel
theorem dL_law_275 : decode cL_law 275 = .ok (.istore 7, 2) := by decide +kernel
theorem dL_law_277 : decode cL_law 277 = .ok (.aload_n 2, 1) := by decide +kernel
theorem dL_law_278 : decode cL_law 278 = .ok (.invokevirtual 73, 3) := by decide +kernel
theorem dL_law_281 : decode cL_law 281 = .ok (.iload 6, 2) := by decide +kernel
theorem dL_law_283 : decode cL_law 283 = .ok (.if_icmp .eq 5, 3) := by decide +kernel
theorem dL_law_286 : decode cL_law 286 = .ok (.iconst 0, 1) := by decide +kernel
theorem dL_law_287 : decode cL_law 287 = .ok (.ireturn, 1) := by decide +kernel
theorem dL_law_288 : decode cL_law 288 = .ok (.iload 6, 2) := by decide +kernel
theorem dL_law_290 : decode cL_law 290 = .ok (.ifCond .ne 15, 3) := by decide +kernel
theorem dL_law_293 : decode cL_law 293 = .ok (.aload_n 3, 1) := by decide +kernel
theorem dL_law_294 : decode cL_law 294 = .ok (.iconst 0, 1) := by decide +kernel
theorem dL_law_295 : decode cL_law 295 = .ok (.laload, 1) := by decide +kernel
theorem dL_law_296 : decode cL_law 296 = .ok (.iload 7, 2) := by decide +kernel
theorem dL_law_298 : decode cL_law 298 = .ok (.i2l, 1) := by decide +kernel
theorem dL_law_299 : decode cL_law 299 = .ok (.lcmp, 1) := by decide +kernel
theorem dL_law_300 : decode cL_law 300 = .ok (.ifCond .eq 5, 3) := by decide +kernel
theorem dL_law_303 : decode cL_law 303 = .ok (.iconst 0, 1) := by decide +kernel
theorem dL_law_304 : decode cL_law 304 = .ok (.ireturn, 1) := by decide +kernel
theorem dL_law_305 : decode cL_law 305 = .ok (.goto 813, 3) := by decide +kernel
theorem dL_law_308 : decode cL_law 308 = .ok (.aload_n 1, 1) := by decide +kernel
theorem dL_law_309 : decode cL_law 309 = .ok (.aload_n 0, 1) := by decide +kernel
theorem dL_law_310 : decode cL_law 310 = .ok (.iload 5, 2) := by decide +kernel
theorem dL_law_312 : decode cL_law 312 = .ok (.iconst 1, 1) := by decide +kernel
theorem dL_law_313 : decode cL_law 313 = .ok (.iadd, 1) := by decide +kernel
theorem dL_law_314 : decode cL_law 314 = .ok (.iaload, 1) := by decide +kernel
theorem dL_law_315 : decode cL_law 315 = .ok (.aload_n 3, 1) := by decide +kernel
theorem dL_law_316 : decode cL_law 316 = .ok (.invokestatic 83, 3) := by decide +kernel
theorem dL_law_319 : decode cL_law 319 = .ok (.istore 6, 2) := by decide +kernel
theorem dL_law_321 : decode cL_law 321 = .ok (.aload_n 2, 1) := by decide +kernel
theorem dL_law_322 : decode cL_law 322 = .ok (.aload_n 0, 1) := by decide +kernel
theorem dL_law_323 : decode cL_law 323 = .ok (.iload 5, 2) := by decide +kernel
theorem dL_law_325 : decode cL_law 325 = .ok (.iconst 1, 1) := by decide +kernel
theorem dL_law_326 : decode cL_law 326 = .ok (.iadd, 1) := by decide +kernel
theorem dL_law_327 : decode cL_law 327 = .ok (.iaload, 1) := by decide +kernel
theorem dL_law_328 : decode cL_law 328 = .ok (.invokevirtual 85, 3) := by decide +kernel
theorem dL_law_331 : decode cL_law 331 = .ok (.istore 7, 2) := by decide +kernel
theorem dL_law_333 : decode cL_law 333 = .ok (.aload_n 2, 1) := by decide +kernel
theorem dL_law_334 : decode cL_law 334 = .ok (.invokevirtual 73, 3) := by decide +kernel
theorem dL_law_337 : decode cL_law 337 = .ok (.iload 6, 2) := by decide +kernel
theorem dL_law_339 : decode cL_law 339 = .ok (.if_icmp .eq 5, 3) := by decide +kernel
theorem dL_law_342 : decode cL_law 342 = .ok (.iconst 0, 1) := by decide +kernel
theorem dL_law_343 : decode cL_law 343 = .ok (.ireturn, 1) := by decide +kernel
theorem dL_law_344 : decode cL_law 344 = .ok (.iload 6, 2) := by decide +kernel
theorem dL_law_346 : decode cL_law 346 = .ok (.ifCond .ne 15, 3) := by decide +kernel
theorem dL_law_349 : decode cL_law 349 = .ok (.aload_n 3, 1) := by decide +kernel
theorem dL_law_350 : decode cL_law 350 = .ok (.iconst 0, 1) := by decide +kernel
theorem dL_law_351 : decode cL_law 351 = .ok (.laload, 1) := by decide +kernel
theorem dL_law_352 : decode cL_law 352 = .ok (.iload 7, 2) := by decide +kernel
theorem dL_law_354 : decode cL_law 354 = .ok (.i2l, 1) := by decide +kernel
theorem dL_law_355 : decode cL_law 355 = .ok (.lcmp, 1) := by decide +kernel
theorem dL_law_356 : decode cL_law 356 = .ok (.ifCond .eq 5, 3) := by decide +kernel
theorem dL_law_359 : decode cL_law 359 = .ok (.iconst 0, 1) := by decide +kernel
theorem dL_law_360 : decode cL_law 360 = .ok (.ireturn, 1) := by decide +kernel
theorem dL_law_361 : decode cL_law 361 = .ok (.goto 757, 3) := by decide +kernel
theorem dL_law_364 : decode cL_law 364 = .ok (.aload_n 1, 1) := by decide +kernel
theorem dL_law_365 : decode cL_law 365 = .ok (.aload_n 0, 1) := by decide +kernel
theorem dL_law_366 : decode cL_law 366 = .ok (.iload 5, 2) := by decide +kernel
theorem dL_law_368 : decode cL_law 368 = .ok (.iconst 1, 1) := by decide +kernel
theorem dL_law_369 : decode cL_law 369 = .ok (.iadd, 1) := by decide +kernel
theorem dL_law_370 : decode cL_law 370 = .ok (.iaload, 1) := by decide +kernel
theorem dL_law_371 : decode cL_law 371 = .ok (.aload_n 3, 1) := by decide +kernel
theorem dL_law_372 : decode cL_law 372 = .ok (.invokestatic 86, 3) := by decide +kernel
theorem dL_law_375 : decode cL_law 375 = .ok (.istore 6, 2) := by decide +kernel
theorem dL_law_377 : decode cL_law 377 = .ok (.aload_n 2, 1) := by decide +kernel
theorem dL_law_378 : decode cL_law 378 = .ok (.aload_n 0, 1) := by decide +kernel
theorem dL_law_379 : decode cL_law 379 = .ok (.iload 5, 2) := by decide +kernel
theorem dL_law_381 : decode cL_law 381 = .ok (.iconst 1, 1) := by decide +kernel
theorem dL_law_382 : decode cL_law 382 = .ok (.iadd, 1) := by decide +kernel
theorem dL_law_383 : decode cL_law 383 = .ok (.iaload, 1) := by decide +kernel
theorem dL_law_384 : decode cL_law 384 = .ok (.invokevirtual 88, 3) := by decide +kernel
theorem dL_law_387 : decode cL_law 387 = .ok (.istore 7, 2) := by decide +kernel
theorem dL_law_389 : decode cL_law 389 = .ok (.aload_n 2, 1) := by decide +kernel
theorem dL_law_390 : decode cL_law 390 = .ok (.invokevirtual 73, 3) := by decide +kernel
theorem dL_law_393 : decode cL_law 393 = .ok (.iload 6, 2) := by decide +kernel
theorem dL_law_395 : decode cL_law 395 = .ok (.if_icmp .eq 5, 3) := by decide +kernel
theorem dL_law_398 : decode cL_law 398 = .ok (.iconst 0, 1) := by decide +kernel
theorem dL_law_399 : decode cL_law 399 = .ok (.ireturn, 1) := by decide +kernel
theorem dL_law_400 : decode cL_law 400 = .ok (.iload 6, 2) := by decide +kernel
theorem dL_law_402 : decode cL_law 402 = .ok (.ifCond .ne 15, 3) := by decide +kernel
theorem dL_law_405 : decode cL_law 405 = .ok (.aload_n 3, 1) := by decide +kernel
theorem dL_law_406 : decode cL_law 406 = .ok (.iconst 0, 1) := by decide +kernel
theorem dL_law_407 : decode cL_law 407 = .ok (.laload, 1) := by decide +kernel
theorem dL_law_408 : decode cL_law 408 = .ok (.iload 7, 2) := by decide +kernel
theorem dL_law_410 : decode cL_law 410 = .ok (.i2l, 1) := by decide +kernel
theorem dL_law_411 : decode cL_law 411 = .ok (.lcmp, 1) := by decide +kernel
theorem dL_law_412 : decode cL_law 412 = .ok (.ifCond .eq 5, 3) := by decide +kernel
theorem dL_law_415 : decode cL_law 415 = .ok (.iconst 0, 1) := by decide +kernel
theorem dL_law_416 : decode cL_law 416 = .ok (.ireturn, 1) := by decide +kernel
theorem dL_law_417 : decode cL_law 417 = .ok (.goto 701, 3) := by decide +kernel
theorem dL_law_420 : decode cL_law 420 = .ok (.aload_n 1, 1) := by decide +kernel
theorem dL_law_421 : decode cL_law 421 = .ok (.aload_n 0, 1) := by decide +kernel
theorem dL_law_422 : decode cL_law 422 = .ok (.iload 5, 2) := by decide +kernel
theorem dL_law_424 : decode cL_law 424 = .ok (.iconst 1, 1) := by decide +kernel
theorem dL_law_425 : decode cL_law 425 = .ok (.iadd, 1) := by decide +kernel
theorem dL_law_426 : decode cL_law 426 = .ok (.iaload, 1) := by decide +kernel
theorem dL_law_427 : decode cL_law 427 = .ok (.aload_n 3, 1) := by decide +kernel
theorem dL_law_428 : decode cL_law 428 = .ok (.invokestatic 89, 3) := by decide +kernel
theorem dL_law_431 : decode cL_law 431 = .ok (.istore 6, 2) := by decide +kernel
theorem dL_law_433 : decode cL_law 433 = .ok (.aload_n 2, 1) := by decide +kernel
theorem dL_law_434 : decode cL_law 434 = .ok (.aload_n 0, 1) := by decide +kernel
theorem dL_law_435 : decode cL_law 435 = .ok (.iload 5, 2) := by decide +kernel
theorem dL_law_437 : decode cL_law 437 = .ok (.iconst 1, 1) := by decide +kernel
theorem dL_law_438 : decode cL_law 438 = .ok (.iadd, 1) := by decide +kernel
theorem dL_law_439 : decode cL_law 439 = .ok (.iaload, 1) := by decide +kernel
theorem dL_law_440 : decode cL_law 440 = .ok (.invokevirtual 91, 3) := by decide +kernel
theorem dL_law_443 : decode cL_law 443 = .ok (.istore 7, 2) := by decide +kernel
theorem dL_law_445 : decode cL_law 445 = .ok (.aload_n 2, 1) := by decide +kernel
theorem dL_law_446 : decode cL_law 446 = .ok (.invokevirtual 73, 3) := by decide +kernel
theorem dL_law_449 : decode cL_law 449 = .ok (.iload 6, 2) := by decide +kernel
theorem dL_law_451 : decode cL_law 451 = .ok (.if_icmp .eq 5, 3) := by decide +kernel
theorem dL_law_454 : decode cL_law 454 = .ok (.iconst 0, 1) := by decide +kernel
theorem dL_law_455 : decode cL_law 455 = .ok (.ireturn, 1) := by decide +kernel
theorem dL_law_456 : decode cL_law 456 = .ok (.iload 6, 2) := by decide +kernel
theorem dL_law_458 : decode cL_law 458 = .ok (.ifCond .ne 22, 3) := by decide +kernel
theorem dL_law_461 : decode cL_law 461 = .ok (.aload_n 3, 1) := by decide +kernel
theorem dL_law_462 : decode cL_law 462 = .ok (.iconst 0, 1) := by decide +kernel
theorem dL_law_463 : decode cL_law 463 = .ok (.laload, 1) := by decide +kernel
theorem dL_law_464 : decode cL_law 464 = .ok (.iload 7, 2) := by decide +kernel
theorem dL_law_466 : decode cL_law 466 = .ok (.ifCond .eq 7, 3) := by decide +kernel
theorem dL_law_469 : decode cL_law 469 = .ok (.lconst 1, 1) := by decide +kernel
theorem dL_law_470 : decode cL_law 470 = .ok (.goto 4, 3) := by decide +kernel
theorem dL_law_473 : decode cL_law 473 = .ok (.lconst 0, 1) := by decide +kernel
theorem dL_law_474 : decode cL_law 474 = .ok (.lcmp, 1) := by decide +kernel
theorem dL_law_475 : decode cL_law 475 = .ok (.ifCond .eq 5, 3) := by decide +kernel
theorem dL_law_478 : decode cL_law 478 = .ok (.iconst 0, 1) := by decide +kernel
theorem dL_law_479 : decode cL_law 479 = .ok (.ireturn, 1) := by decide +kernel
theorem dL_law_480 : decode cL_law 480 = .ok (.goto 638, 3) := by decide +kernel
theorem dL_law_483 : decode cL_law 483 = .ok (.aload_n 1, 1) := by decide +kernel
theorem dL_law_484 : decode cL_law 484 = .ok (.aload_n 0, 1) := by decide +kernel
theorem dL_law_485 : decode cL_law 485 = .ok (.iload 5, 2) := by decide +kernel
theorem dL_law_487 : decode cL_law 487 = .ok (.iconst 1, 1) := by decide +kernel
theorem dL_law_488 : decode cL_law 488 = .ok (.iadd, 1) := by decide +kernel
theorem dL_law_489 : decode cL_law 489 = .ok (.iaload, 1) := by decide +kernel
theorem dL_law_490 : decode cL_law 490 = .ok (.aload_n 3, 1) := by decide +kernel
theorem dL_law_491 : decode cL_law 491 = .ok (.invokestatic 92, 3) := by decide +kernel
theorem dL_law_494 : decode cL_law 494 = .ok (.istore 6, 2) := by decide +kernel
theorem dL_law_496 : decode cL_law 496 = .ok (.aload_n 2, 1) := by decide +kernel
theorem dL_law_497 : decode cL_law 497 = .ok (.aload_n 0, 1) := by decide +kernel
theorem dL_law_498 : decode cL_law 498 = .ok (.iload 5, 2) := by decide +kernel
theorem dL_law_500 : decode cL_law 500 = .ok (.iconst 1, 1) := by decide +kernel
theorem dL_law_501 : decode cL_law 501 = .ok (.iadd, 1) := by decide +kernel
theorem dL_law_502 : decode cL_law 502 = .ok (.iaload, 1) := by decide +kernel
theorem dL_law_503 : decode cL_law 503 = .ok (.invokevirtual 94, 3) := by decide +kernel
theorem dL_law_506 : decode cL_law 506 = .ok (.istore 7, 2) := by decide +kernel
theorem dL_law_508 : decode cL_law 508 = .ok (.aload_n 2, 1) := by decide +kernel
theorem dL_law_509 : decode cL_law 509 = .ok (.invokevirtual 73, 3) := by decide +kernel
theorem dL_law_512 : decode cL_law 512 = .ok (.iload 6, 2) := by decide +kernel
theorem dL_law_514 : decode cL_law 514 = .ok (.if_icmp .eq 5, 3) := by decide +kernel
theorem dL_law_517 : decode cL_law 517 = .ok (.iconst 0, 1) := by decide +kernel
theorem dL_law_518 : decode cL_law 518 = .ok (.ireturn, 1) := by decide +kernel
theorem dL_law_519 : decode cL_law 519 = .ok (.iload 6, 2) := by decide +kernel
theorem dL_law_521 : decode cL_law 521 = .ok (.ifCond .ne 15, 3) := by decide +kernel
theorem dL_law_524 : decode cL_law 524 = .ok (.aload_n 3, 1) := by decide +kernel
theorem dL_law_525 : decode cL_law 525 = .ok (.iconst 0, 1) := by decide +kernel
theorem dL_law_526 : decode cL_law 526 = .ok (.laload, 1) := by decide +kernel
theorem dL_law_527 : decode cL_law 527 = .ok (.iload 7, 2) := by decide +kernel
theorem dL_law_529 : decode cL_law 529 = .ok (.i2l, 1) := by decide +kernel
theorem dL_law_530 : decode cL_law 530 = .ok (.lcmp, 1) := by decide +kernel
theorem dL_law_531 : decode cL_law 531 = .ok (.ifCond .eq 5, 3) := by decide +kernel
theorem dL_law_534 : decode cL_law 534 = .ok (.iconst 0, 1) := by decide +kernel
theorem dL_law_535 : decode cL_law 535 = .ok (.ireturn, 1) := by decide +kernel
theorem dL_law_536 : decode cL_law 536 = .ok (.goto 582, 3) := by decide +kernel
theorem dL_law_539 : decode cL_law 539 = .ok (.aload_n 1, 1) := by decide +kernel
theorem dL_law_540 : decode cL_law 540 = .ok (.invokevirtual 95, 3) := by decide +kernel
theorem dL_law_543 : decode cL_law 543 = .ok (.aload_n 2, 1) := by decide +kernel
theorem dL_law_544 : decode cL_law 544 = .ok (.invokevirtual 98, 3) := by decide +kernel
theorem dL_law_547 : decode cL_law 547 = .ok (.if_icmp .eq 571, 3) := by decide +kernel
theorem dL_law_550 : decode cL_law 550 = .ok (.iconst 0, 1) := by decide +kernel
theorem dL_law_551 : decode cL_law 551 = .ok (.ireturn, 1) := by decide +kernel
theorem dL_law_552 : decode cL_law 552 = .ok (.aload_n 1, 1) := by decide +kernel
theorem dL_law_553 : decode cL_law 553 = .ok (.aload_n 0, 1) := by decide +kernel
theorem dL_law_554 : decode cL_law 554 = .ok (.iload 5, 2) := by decide +kernel
theorem dL_law_556 : decode cL_law 556 = .ok (.iconst 1, 1) := by decide +kernel
theorem dL_law_557 : decode cL_law 557 = .ok (.iadd, 1) := by decide +kernel
theorem dL_law_558 : decode cL_law 558 = .ok (.iaload, 1) := by decide +kernel
theorem dL_law_559 : decode cL_law 559 = .ok (.invokevirtual 99, 3) := by decide +kernel
theorem dL_law_562 : decode cL_law 562 = .ok (.aload_n 2, 1) := by decide +kernel
theorem dL_law_563 : decode cL_law 563 = .ok (.aload_n 0, 1) := by decide +kernel
theorem dL_law_564 : decode cL_law 564 = .ok (.iload 5, 2) := by decide +kernel
theorem dL_law_566 : decode cL_law 566 = .ok (.iconst 1, 1) := by decide +kernel
theorem dL_law_567 : decode cL_law 567 = .ok (.iadd, 1) := by decide +kernel
theorem dL_law_568 : decode cL_law 568 = .ok (.iaload, 1) := by decide +kernel
theorem dL_law_569 : decode cL_law 569 = .ok (.invokevirtual 102, 3) := by decide +kernel
theorem dL_law_572 : decode cL_law 572 = .ok (.if_icmp .eq 546, 3) := by decide +kernel
theorem dL_law_575 : decode cL_law 575 = .ok (.iconst 0, 1) := by decide +kernel
theorem dL_law_576 : decode cL_law 576 = .ok (.ireturn, 1) := by decide +kernel
theorem dL_law_577 : decode cL_law 577 = .ok (.aload_n 1, 1) := by decide +kernel
theorem dL_law_578 : decode cL_law 578 = .ok (.aload_n 0, 1) := by decide +kernel
theorem dL_law_579 : decode cL_law 579 = .ok (.iload 5, 2) := by decide +kernel
theorem dL_law_581 : decode cL_law 581 = .ok (.iconst 1, 1) := by decide +kernel
theorem dL_law_582 : decode cL_law 582 = .ok (.iadd, 1) := by decide +kernel
theorem dL_law_583 : decode cL_law 583 = .ok (.iaload, 1) := by decide +kernel
theorem dL_law_584 : decode cL_law 584 = .ok (.aload_n 3, 1) := by decide +kernel
theorem dL_law_585 : decode cL_law 585 = .ok (.invokestatic 103, 3) := by decide +kernel
theorem dL_law_588 : decode cL_law 588 = .ok (.istore 6, 2) := by decide +kernel
theorem dL_law_590 : decode cL_law 590 = .ok (.aload_n 2, 1) := by decide +kernel
theorem dL_law_591 : decode cL_law 591 = .ok (.aload_n 0, 1) := by decide +kernel
theorem dL_law_592 : decode cL_law 592 = .ok (.iload 5, 2) := by decide +kernel
theorem dL_law_594 : decode cL_law 594 = .ok (.iconst 1, 1) := by decide +kernel
theorem dL_law_595 : decode cL_law 595 = .ok (.iadd, 1) := by decide +kernel
theorem dL_law_596 : decode cL_law 596 = .ok (.iaload, 1) := by decide +kernel
theorem dL_law_597 : decode cL_law 597 = .ok (.invokevirtual 105, 3) := by decide +kernel
theorem dL_law_600 : decode cL_law 600 = .ok (.istore 7, 2) := by decide +kernel
theorem dL_law_602 : decode cL_law 602 = .ok (.aload_n 2, 1) := by decide +kernel
theorem dL_law_603 : decode cL_law 603 = .ok (.invokevirtual 73, 3) := by decide +kernel
theorem dL_law_606 : decode cL_law 606 = .ok (.iload 6, 2) := by decide +kernel
theorem dL_law_608 : decode cL_law 608 = .ok (.if_icmp .eq 5, 3) := by decide +kernel
theorem dL_law_611 : decode cL_law 611 = .ok (.iconst 0, 1) := by decide +kernel
theorem dL_law_612 : decode cL_law 612 = .ok (.ireturn, 1) := by decide +kernel
theorem dL_law_613 : decode cL_law 613 = .ok (.iload 6, 2) := by decide +kernel
theorem dL_law_615 : decode cL_law 615 = .ok (.ifCond .ne 15, 3) := by decide +kernel
theorem dL_law_618 : decode cL_law 618 = .ok (.aload_n 3, 1) := by decide +kernel
theorem dL_law_619 : decode cL_law 619 = .ok (.iconst 0, 1) := by decide +kernel
theorem dL_law_620 : decode cL_law 620 = .ok (.laload, 1) := by decide +kernel
theorem dL_law_621 : decode cL_law 621 = .ok (.iload 7, 2) := by decide +kernel
theorem dL_law_623 : decode cL_law 623 = .ok (.i2l, 1) := by decide +kernel
theorem dL_law_624 : decode cL_law 624 = .ok (.lcmp, 1) := by decide +kernel
theorem dL_law_625 : decode cL_law 625 = .ok (.ifCond .eq 5, 3) := by decide +kernel
theorem dL_law_628 : decode cL_law 628 = .ok (.iconst 0, 1) := by decide +kernel
theorem dL_law_629 : decode cL_law 629 = .ok (.ireturn, 1) := by decide +kernel
theorem dL_law_630 : decode cL_law 630 = .ok (.goto 488, 3) := by decide +kernel
theorem dL_law_633 : decode cL_law 633 = .ok (.aload_n 1, 1) := by decide +kernel
theorem dL_law_634 : decode cL_law 634 = .ok (.aload_n 0, 1) := by decide +kernel
theorem dL_law_635 : decode cL_law 635 = .ok (.iload 5, 2) := by decide +kernel
theorem dL_law_637 : decode cL_law 637 = .ok (.iconst 1, 1) := by decide +kernel
theorem dL_law_638 : decode cL_law 638 = .ok (.iadd, 1) := by decide +kernel
theorem dL_law_639 : decode cL_law 639 = .ok (.iaload, 1) := by decide +kernel
theorem dL_law_640 : decode cL_law 640 = .ok (.aload_n 3, 1) := by decide +kernel
theorem dL_law_641 : decode cL_law 641 = .ok (.invokestatic 106, 3) := by decide +kernel
theorem dL_law_644 : decode cL_law 644 = .ok (.istore 6, 2) := by decide +kernel
theorem dL_law_646 : decode cL_law 646 = .ok (.aload_n 2, 1) := by decide +kernel
theorem dL_law_647 : decode cL_law 647 = .ok (.aload_n 0, 1) := by decide +kernel
theorem dL_law_648 : decode cL_law 648 = .ok (.iload 5, 2) := by decide +kernel
theorem dL_law_650 : decode cL_law 650 = .ok (.iconst 1, 1) := by decide +kernel
theorem dL_law_651 : decode cL_law 651 = .ok (.iadd, 1) := by decide +kernel
theorem dL_law_652 : decode cL_law 652 = .ok (.iaload, 1) := by decide +kernel
theorem dL_law_653 : decode cL_law 653 = .ok (.invokevirtual 108, 3) := by decide +kernel
theorem dL_law_656 : decode cL_law 656 = .ok (.istore 7, 2) := by decide +kernel
theorem dL_law_658 : decode cL_law 658 = .ok (.aload_n 2, 1) := by decide +kernel
theorem dL_law_659 : decode cL_law 659 = .ok (.invokevirtual 73, 3) := by decide +kernel
theorem dL_law_662 : decode cL_law 662 = .ok (.iload 6, 2) := by decide +kernel
theorem dL_law_664 : decode cL_law 664 = .ok (.if_icmp .eq 5, 3) := by decide +kernel
theorem dL_law_667 : decode cL_law 667 = .ok (.iconst 0, 1) := by decide +kernel
theorem dL_law_668 : decode cL_law 668 = .ok (.ireturn, 1) := by decide +kernel
theorem dL_law_669 : decode cL_law 669 = .ok (.iload 6, 2) := by decide +kernel
theorem dL_law_671 : decode cL_law 671 = .ok (.ifCond .ne 15, 3) := by decide +kernel
theorem dL_law_674 : decode cL_law 674 = .ok (.aload_n 3, 1) := by decide +kernel
theorem dL_law_675 : decode cL_law 675 = .ok (.iconst 0, 1) := by decide +kernel
theorem dL_law_676 : decode cL_law 676 = .ok (.laload, 1) := by decide +kernel
theorem dL_law_677 : decode cL_law 677 = .ok (.iload 7, 2) := by decide +kernel
theorem dL_law_679 : decode cL_law 679 = .ok (.i2l, 1) := by decide +kernel
theorem dL_law_680 : decode cL_law 680 = .ok (.lcmp, 1) := by decide +kernel
theorem dL_law_681 : decode cL_law 681 = .ok (.ifCond .eq 5, 3) := by decide +kernel
theorem dL_law_684 : decode cL_law 684 = .ok (.iconst 0, 1) := by decide +kernel
theorem dL_law_685 : decode cL_law 685 = .ok (.ireturn, 1) := by decide +kernel
theorem dL_law_686 : decode cL_law 686 = .ok (.goto 432, 3) := by decide +kernel
theorem dL_law_689 : decode cL_law 689 = .ok (.aload_n 1, 1) := by decide +kernel
theorem dL_law_690 : decode cL_law 690 = .ok (.aload_n 0, 1) := by decide +kernel
theorem dL_law_691 : decode cL_law 691 = .ok (.iload 5, 2) := by decide +kernel
theorem dL_law_693 : decode cL_law 693 = .ok (.iconst 1, 1) := by decide +kernel
theorem dL_law_694 : decode cL_law 694 = .ok (.iadd, 1) := by decide +kernel
theorem dL_law_695 : decode cL_law 695 = .ok (.iaload, 1) := by decide +kernel
theorem dL_law_696 : decode cL_law 696 = .ok (.aload_n 3, 1) := by decide +kernel
theorem dL_law_697 : decode cL_law 697 = .ok (.invokestatic 109, 3) := by decide +kernel
theorem dL_law_700 : decode cL_law 700 = .ok (.istore 6, 2) := by decide +kernel
theorem dL_law_702 : decode cL_law 702 = .ok (.aload_n 2, 1) := by decide +kernel
theorem dL_law_703 : decode cL_law 703 = .ok (.aload_n 0, 1) := by decide +kernel
theorem dL_law_704 : decode cL_law 704 = .ok (.iload 5, 2) := by decide +kernel
theorem dL_law_706 : decode cL_law 706 = .ok (.iconst 1, 1) := by decide +kernel
theorem dL_law_707 : decode cL_law 707 = .ok (.iadd, 1) := by decide +kernel
theorem dL_law_708 : decode cL_law 708 = .ok (.iaload, 1) := by decide +kernel
theorem dL_law_709 : decode cL_law 709 = .ok (.invokevirtual 111, 3) := by decide +kernel
theorem dL_law_712 : decode cL_law 712 = .ok (.istore 7, 2) := by decide +kernel
theorem dL_law_714 : decode cL_law 714 = .ok (.aload_n 2, 1) := by decide +kernel
theorem dL_law_715 : decode cL_law 715 = .ok (.invokevirtual 73, 3) := by decide +kernel
theorem dL_law_718 : decode cL_law 718 = .ok (.iload 6, 2) := by decide +kernel
theorem dL_law_720 : decode cL_law 720 = .ok (.if_icmp .eq 5, 3) := by decide +kernel
theorem dL_law_723 : decode cL_law 723 = .ok (.iconst 0, 1) := by decide +kernel
theorem dL_law_724 : decode cL_law 724 = .ok (.ireturn, 1) := by decide +kernel
theorem dL_law_725 : decode cL_law 725 = .ok (.iload 6, 2) := by decide +kernel
theorem dL_law_727 : decode cL_law 727 = .ok (.ifCond .ne 15, 3) := by decide +kernel
theorem dL_law_730 : decode cL_law 730 = .ok (.aload_n 3, 1) := by decide +kernel
theorem dL_law_731 : decode cL_law 731 = .ok (.iconst 0, 1) := by decide +kernel
theorem dL_law_732 : decode cL_law 732 = .ok (.laload, 1) := by decide +kernel
theorem dL_law_733 : decode cL_law 733 = .ok (.iload 7, 2) := by decide +kernel
theorem dL_law_735 : decode cL_law 735 = .ok (.i2l, 1) := by decide +kernel
theorem dL_law_736 : decode cL_law 736 = .ok (.lcmp, 1) := by decide +kernel
theorem dL_law_737 : decode cL_law 737 = .ok (.ifCond .eq 5, 3) := by decide +kernel
theorem dL_law_740 : decode cL_law 740 = .ok (.iconst 0, 1) := by decide +kernel
theorem dL_law_741 : decode cL_law 741 = .ok (.ireturn, 1) := by decide +kernel
theorem dL_law_742 : decode cL_law 742 = .ok (.goto 376, 3) := by decide +kernel
theorem dL_law_745 : decode cL_law 745 = .ok (.aload_n 1, 1) := by decide +kernel
theorem dL_law_746 : decode cL_law 746 = .ok (.aload_n 0, 1) := by decide +kernel
theorem dL_law_747 : decode cL_law 747 = .ok (.iload 5, 2) := by decide +kernel
theorem dL_law_749 : decode cL_law 749 = .ok (.iconst 1, 1) := by decide +kernel
theorem dL_law_750 : decode cL_law 750 = .ok (.iadd, 1) := by decide +kernel
theorem dL_law_751 : decode cL_law 751 = .ok (.iaload, 1) := by decide +kernel
theorem dL_law_752 : decode cL_law 752 = .ok (.aload 4, 2) := by decide +kernel
theorem dL_law_754 : decode cL_law 754 = .ok (.invokestatic 112, 3) := by decide +kernel
theorem dL_law_757 : decode cL_law 757 = .ok (.istore 6, 2) := by decide +kernel
theorem dL_law_759 : decode cL_law 759 = .ok (.aload_n 2, 1) := by decide +kernel
theorem dL_law_760 : decode cL_law 760 = .ok (.aload_n 0, 1) := by decide +kernel
theorem dL_law_761 : decode cL_law 761 = .ok (.iload 5, 2) := by decide +kernel
theorem dL_law_763 : decode cL_law 763 = .ok (.iconst 1, 1) := by decide +kernel
theorem dL_law_764 : decode cL_law 764 = .ok (.iadd, 1) := by decide +kernel
theorem dL_law_765 : decode cL_law 765 = .ok (.iaload, 1) := by decide +kernel
theorem dL_law_766 : decode cL_law 766 = .ok (.invokevirtual 115, 3) := by decide +kernel
theorem dL_law_769 : decode cL_law 769 = .ok (.dstore 7, 2) := by decide +kernel
theorem dL_law_771 : decode cL_law 771 = .ok (.aload_n 2, 1) := by decide +kernel
theorem dL_law_772 : decode cL_law 772 = .ok (.invokevirtual 73, 3) := by decide +kernel
theorem dL_law_775 : decode cL_law 775 = .ok (.iload 6, 2) := by decide +kernel
theorem dL_law_777 : decode cL_law 777 = .ok (.if_icmp .eq 5, 3) := by decide +kernel
theorem dL_law_780 : decode cL_law 780 = .ok (.iconst 0, 1) := by decide +kernel
theorem dL_law_781 : decode cL_law 781 = .ok (.ireturn, 1) := by decide +kernel
theorem dL_law_782 : decode cL_law 782 = .ok (.iload 6, 2) := by decide +kernel
theorem dL_law_784 : decode cL_law 784 = .ok (.ifCond .ne 35, 3) := by decide +kernel
theorem dL_law_787 : decode cL_law 787 = .ok (.aload 4, 2) := by decide +kernel
theorem dL_law_789 : decode cL_law 789 = .ok (.iconst 0, 1) := by decide +kernel
theorem dL_law_790 : decode cL_law 790 = .ok (.daload, 1) := by decide +kernel
theorem dL_law_791 : decode cL_law 791 = .ok (.dload 7, 2) := by decide +kernel
theorem dL_law_793 : decode cL_law 793 = .ok (.dcmp .l, 1) := by decide +kernel
theorem dL_law_794 : decode cL_law 794 = .ok (.ifCond .eq 25, 3) := by decide +kernel
theorem dL_law_797 : decode cL_law 797 = .ok (.aload 4, 2) := by decide +kernel
theorem dL_law_799 : decode cL_law 799 = .ok (.iconst 0, 1) := by decide +kernel
theorem dL_law_800 : decode cL_law 800 = .ok (.daload, 1) := by decide +kernel
theorem dL_law_801 : decode cL_law 801 = .ok (.aload 4, 2) := by decide +kernel
theorem dL_law_803 : decode cL_law 803 = .ok (.iconst 0, 1) := by decide +kernel
theorem dL_law_804 : decode cL_law 804 = .ok (.daload, 1) := by decide +kernel
theorem dL_law_805 : decode cL_law 805 = .ok (.dcmp .l, 1) := by decide +kernel
theorem dL_law_806 : decode cL_law 806 = .ok (.ifCond .eq 11, 3) := by decide +kernel
theorem dL_law_809 : decode cL_law 809 = .ok (.dload 7, 2) := by decide +kernel
theorem dL_law_811 : decode cL_law 811 = .ok (.dload 7, 2) := by decide +kernel
theorem dL_law_813 : decode cL_law 813 = .ok (.dcmp .l, 1) := by decide +kernel
theorem dL_law_814 : decode cL_law 814 = .ok (.ifCond .ne 5, 3) := by decide +kernel
theorem dL_law_817 : decode cL_law 817 = .ok (.iconst 0, 1) := by decide +kernel
theorem dL_law_818 : decode cL_law 818 = .ok (.ireturn, 1) := by decide +kernel
theorem dL_law_819 : decode cL_law 819 = .ok (.goto 299, 3) := by decide +kernel
theorem dL_law_822 : decode cL_law 822 = .ok (.aload_n 1, 1) := by decide +kernel
theorem dL_law_823 : decode cL_law 823 = .ok (.aload_n 0, 1) := by decide +kernel
theorem dL_law_824 : decode cL_law 824 = .ok (.iload 5, 2) := by decide +kernel
theorem dL_law_826 : decode cL_law 826 = .ok (.iconst 1, 1) := by decide +kernel
theorem dL_law_827 : decode cL_law 827 = .ok (.iadd, 1) := by decide +kernel
theorem dL_law_828 : decode cL_law 828 = .ok (.iaload, 1) := by decide +kernel
theorem dL_law_829 : decode cL_law 829 = .ok (.aload 4, 2) := by decide +kernel
theorem dL_law_831 : decode cL_law 831 = .ok (.invokestatic 116, 3) := by decide +kernel
theorem dL_law_834 : decode cL_law 834 = .ok (.istore 6, 2) := by decide +kernel
theorem dL_law_836 : decode cL_law 836 = .ok (.aload_n 2, 1) := by decide +kernel
theorem dL_law_837 : decode cL_law 837 = .ok (.aload_n 0, 1) := by decide +kernel
theorem dL_law_838 : decode cL_law 838 = .ok (.iload 5, 2) := by decide +kernel
theorem dL_law_840 : decode cL_law 840 = .ok (.iconst 1, 1) := by decide +kernel
theorem dL_law_841 : decode cL_law 841 = .ok (.iadd, 1) := by decide +kernel
theorem dL_law_842 : decode cL_law 842 = .ok (.iaload, 1) := by decide +kernel
theorem dL_law_843 : decode cL_law 843 = .ok (.invokevirtual 118, 3) := by decide +kernel
theorem dL_law_846 : decode cL_law 846 = .ok (.dstore 7, 2) := by decide +kernel
theorem dL_law_848 : decode cL_law 848 = .ok (.aload_n 2, 1) := by decide +kernel
theorem dL_law_849 : decode cL_law 849 = .ok (.invokevirtual 73, 3) := by decide +kernel
theorem dL_law_852 : decode cL_law 852 = .ok (.iload 6, 2) := by decide +kernel
theorem dL_law_854 : decode cL_law 854 = .ok (.if_icmp .eq 5, 3) := by decide +kernel
theorem dL_law_857 : decode cL_law 857 = .ok (.iconst 0, 1) := by decide +kernel
theorem dL_law_858 : decode cL_law 858 = .ok (.ireturn, 1) := by decide +kernel
theorem dL_law_859 : decode cL_law 859 = .ok (.iload 6, 2) := by decide +kernel
theorem dL_law_861 : decode cL_law 861 = .ok (.ifCond .ne 35, 3) := by decide +kernel
theorem dL_law_864 : decode cL_law 864 = .ok (.aload 4, 2) := by decide +kernel
theorem dL_law_866 : decode cL_law 866 = .ok (.iconst 0, 1) := by decide +kernel
theorem dL_law_867 : decode cL_law 867 = .ok (.daload, 1) := by decide +kernel
theorem dL_law_868 : decode cL_law 868 = .ok (.dload 7, 2) := by decide +kernel
theorem dL_law_870 : decode cL_law 870 = .ok (.dcmp .l, 1) := by decide +kernel
theorem dL_law_871 : decode cL_law 871 = .ok (.ifCond .eq 25, 3) := by decide +kernel
theorem dL_law_874 : decode cL_law 874 = .ok (.aload 4, 2) := by decide +kernel
theorem dL_law_876 : decode cL_law 876 = .ok (.iconst 0, 1) := by decide +kernel
theorem dL_law_877 : decode cL_law 877 = .ok (.daload, 1) := by decide +kernel
theorem dL_law_878 : decode cL_law 878 = .ok (.aload 4, 2) := by decide +kernel
theorem dL_law_880 : decode cL_law 880 = .ok (.iconst 0, 1) := by decide +kernel
theorem dL_law_881 : decode cL_law 881 = .ok (.daload, 1) := by decide +kernel
theorem dL_law_882 : decode cL_law 882 = .ok (.dcmp .l, 1) := by decide +kernel
theorem dL_law_883 : decode cL_law 883 = .ok (.ifCond .eq 11, 3) := by decide +kernel
theorem dL_law_886 : decode cL_law 886 = .ok (.dload 7, 2) := by decide +kernel
theorem dL_law_888 : decode cL_law 888 = .ok (.dload 7, 2) := by decide +kernel
theorem dL_law_890 : decode cL_law 890 = .ok (.dcmp .l, 1) := by decide +kernel
theorem dL_law_891 : decode cL_law 891 = .ok (.ifCond .ne 5, 3) := by decide +kernel
theorem dL_law_894 : decode cL_law 894 = .ok (.iconst 0, 1) := by decide +kernel
theorem dL_law_895 : decode cL_law 895 = .ok (.ireturn, 1) := by decide +kernel
theorem dL_law_896 : decode cL_law 896 = .ok (.goto 222, 3) := by decide +kernel
theorem dL_law_899 : decode cL_law 899 = .ok (.aload_n 1, 1) := by decide +kernel
theorem dL_law_900 : decode cL_law 900 = .ok (.aload_n 0, 1) := by decide +kernel
theorem dL_law_901 : decode cL_law 901 = .ok (.iload 5, 2) := by decide +kernel
theorem dL_law_903 : decode cL_law 903 = .ok (.iconst 1, 1) := by decide +kernel
theorem dL_law_904 : decode cL_law 904 = .ok (.iadd, 1) := by decide +kernel
theorem dL_law_905 : decode cL_law 905 = .ok (.iaload, 1) := by decide +kernel
theorem dL_law_906 : decode cL_law 906 = .ok (.aload_n 3, 1) := by decide +kernel
theorem dL_law_907 : decode cL_law 907 = .ok (.invokestatic 119, 3) := by decide +kernel
theorem dL_law_910 : decode cL_law 910 = .ok (.istore 6, 2) := by decide +kernel
theorem dL_law_912 : decode cL_law 912 = .ok (.aload_n 2, 1) := by decide +kernel
theorem dL_law_913 : decode cL_law 913 = .ok (.aload_n 0, 1) := by decide +kernel
theorem dL_law_914 : decode cL_law 914 = .ok (.iload 5, 2) := by decide +kernel
theorem dL_law_916 : decode cL_law 916 = .ok (.iconst 1, 1) := by decide +kernel
theorem dL_law_917 : decode cL_law 917 = .ok (.iadd, 1) := by decide +kernel
theorem dL_law_918 : decode cL_law 918 = .ok (.iaload, 1) := by decide +kernel
theorem dL_law_919 : decode cL_law 919 = .ok (.invokevirtual 121, 3) := by decide +kernel
theorem dL_law_922 : decode cL_law 922 = .ok (.istore 7, 2) := by decide +kernel
theorem dL_law_924 : decode cL_law 924 = .ok (.aload_n 2, 1) := by decide +kernel
theorem dL_law_925 : decode cL_law 925 = .ok (.invokevirtual 73, 3) := by decide +kernel
theorem dL_law_928 : decode cL_law 928 = .ok (.iload 6, 2) := by decide +kernel
theorem dL_law_930 : decode cL_law 930 = .ok (.if_icmp .eq 5, 3) := by decide +kernel
theorem dL_law_933 : decode cL_law 933 = .ok (.iconst 0, 1) := by decide +kernel
theorem dL_law_934 : decode cL_law 934 = .ok (.ireturn, 1) := by decide +kernel
theorem dL_law_935 : decode cL_law 935 = .ok (.iload 6, 2) := by decide +kernel
theorem dL_law_937 : decode cL_law 937 = .ok (.ifCond .ne 15, 3) := by decide +kernel
theorem dL_law_940 : decode cL_law 940 = .ok (.aload_n 3, 1) := by decide +kernel
theorem dL_law_941 : decode cL_law 941 = .ok (.iconst 0, 1) := by decide +kernel
theorem dL_law_942 : decode cL_law 942 = .ok (.laload, 1) := by decide +kernel
theorem dL_law_943 : decode cL_law 943 = .ok (.iload 7, 2) := by decide +kernel
theorem dL_law_945 : decode cL_law 945 = .ok (.i2l, 1) := by decide +kernel
theorem dL_law_946 : decode cL_law 946 = .ok (.lcmp, 1) := by decide +kernel
theorem dL_law_947 : decode cL_law 947 = .ok (.ifCond .eq 5, 3) := by decide +kernel
theorem dL_law_950 : decode cL_law 950 = .ok (.iconst 0, 1) := by decide +kernel
theorem dL_law_951 : decode cL_law 951 = .ok (.ireturn, 1) := by decide +kernel
theorem dL_law_952 : decode cL_law 952 = .ok (.goto 166, 3) := by decide +kernel
theorem dL_law_955 : decode cL_law 955 = .ok (.aload_n 1, 1) := by decide +kernel
theorem dL_law_956 : decode cL_law 956 = .ok (.aload_n 0, 1) := by decide +kernel
theorem dL_law_957 : decode cL_law 957 = .ok (.iload 5, 2) := by decide +kernel
theorem dL_law_959 : decode cL_law 959 = .ok (.iconst 1, 1) := by decide +kernel
theorem dL_law_960 : decode cL_law 960 = .ok (.iadd, 1) := by decide +kernel
theorem dL_law_961 : decode cL_law 961 = .ok (.iaload, 1) := by decide +kernel
theorem dL_law_962 : decode cL_law 962 = .ok (.aload_n 3, 1) := by decide +kernel
theorem dL_law_963 : decode cL_law 963 = .ok (.invokestatic 122, 3) := by decide +kernel
theorem dL_law_966 : decode cL_law 966 = .ok (.istore 6, 2) := by decide +kernel
theorem dL_law_968 : decode cL_law 968 = .ok (.aload_n 2, 1) := by decide +kernel
theorem dL_law_969 : decode cL_law 969 = .ok (.aload_n 0, 1) := by decide +kernel
theorem dL_law_970 : decode cL_law 970 = .ok (.iload 5, 2) := by decide +kernel
theorem dL_law_972 : decode cL_law 972 = .ok (.iconst 1, 1) := by decide +kernel
theorem dL_law_973 : decode cL_law 973 = .ok (.iadd, 1) := by decide +kernel
theorem dL_law_974 : decode cL_law 974 = .ok (.iaload, 1) := by decide +kernel
theorem dL_law_975 : decode cL_law 975 = .ok (.invokevirtual 124, 3) := by decide +kernel
theorem dL_law_978 : decode cL_law 978 = .ok (.istore 7, 2) := by decide +kernel
theorem dL_law_980 : decode cL_law 980 = .ok (.aload_n 2, 1) := by decide +kernel
theorem dL_law_981 : decode cL_law 981 = .ok (.invokevirtual 73, 3) := by decide +kernel
theorem dL_law_984 : decode cL_law 984 = .ok (.iload 6, 2) := by decide +kernel
theorem dL_law_986 : decode cL_law 986 = .ok (.if_icmp .eq 5, 3) := by decide +kernel
theorem dL_law_989 : decode cL_law 989 = .ok (.iconst 0, 1) := by decide +kernel
theorem dL_law_990 : decode cL_law 990 = .ok (.ireturn, 1) := by decide +kernel
theorem dL_law_991 : decode cL_law 991 = .ok (.iload 6, 2) := by decide +kernel
theorem dL_law_993 : decode cL_law 993 = .ok (.ifCond .ne 15, 3) := by decide +kernel
theorem dL_law_996 : decode cL_law 996 = .ok (.aload_n 3, 1) := by decide +kernel
theorem dL_law_997 : decode cL_law 997 = .ok (.iconst 0, 1) := by decide +kernel
theorem dL_law_998 : decode cL_law 998 = .ok (.laload, 1) := by decide +kernel
theorem dL_law_999 : decode cL_law 999 = .ok (.iload 7, 2) := by decide +kernel
theorem dL_law_1001 : decode cL_law 1001 = .ok (.i2l, 1) := by decide +kernel
theorem dL_law_1002 : decode cL_law 1002 = .ok (.lcmp, 1) := by decide +kernel
theorem dL_law_1003 : decode cL_law 1003 = .ok (.ifCond .eq 5, 3) := by decide +kernel
theorem dL_law_1006 : decode cL_law 1006 = .ok (.iconst 0, 1) := by decide +kernel
theorem dL_law_1007 : decode cL_law 1007 = .ok (.ireturn, 1) := by decide +kernel
theorem dL_law_1008 : decode cL_law 1008 = .ok (.goto 110, 3) := by decide +kernel
theorem dL_law_1011 : decode cL_law 1011 = .ok (.aload_n 1, 1) := by decide +kernel
theorem dL_law_1012 : decode cL_law 1012 = .ok (.invokevirtual 125, 3) := by decide +kernel
theorem dL_law_1015 : decode cL_law 1015 = .ok (.aload_n 2, 1) := by decide +kernel
theorem dL_law_1016 : decode cL_law 1016 = .ok (.invokevirtual 128, 3) := by decide +kernel
theorem dL_law_1019 : decode cL_law 1019 = .ok (.if_icmp .eq 99, 3) := by decide +kernel
theorem dL_law_1022 : decode cL_law 1022 = .ok (.iconst 0, 1) := by decide +kernel
theorem dL_law_1023 : decode cL_law 1023 = .ok (.ireturn, 1) := by decide +kernel
theorem dL_law_1024 : decode cL_law 1024 = .ok (.aload_n 1, 1) := by decide +kernel
theorem dL_law_1025 : decode cL_law 1025 = .ok (.aload_n 0, 1) := by decide +kernel
theorem dL_law_1026 : decode cL_law 1026 = .ok (.iload 5, 2) := by decide +kernel
theorem dL_law_1028 : decode cL_law 1028 = .ok (.iconst 1, 1) := by decide +kernel
theorem dL_law_1029 : decode cL_law 1029 = .ok (.iadd, 1) := by decide +kernel
theorem dL_law_1030 : decode cL_law 1030 = .ok (.iaload, 1) := by decide +kernel
theorem dL_law_1031 : decode cL_law 1031 = .ok (.invokevirtual 129, 3) := by decide +kernel
theorem dL_law_1034 : decode cL_law 1034 = .ok (.aload_n 2, 1) := by decide +kernel
theorem dL_law_1035 : decode cL_law 1035 = .ok (.aload_n 0, 1) := by decide +kernel
theorem dL_law_1036 : decode cL_law 1036 = .ok (.iload 5, 2) := by decide +kernel
theorem dL_law_1038 : decode cL_law 1038 = .ok (.iconst 1, 1) := by decide +kernel
theorem dL_law_1039 : decode cL_law 1039 = .ok (.iadd, 1) := by decide +kernel
theorem dL_law_1040 : decode cL_law 1040 = .ok (.iaload, 1) := by decide +kernel
theorem dL_law_1041 : decode cL_law 1041 = .ok (.invokevirtual 132, 3) := by decide +kernel
theorem dL_law_1044 : decode cL_law 1044 = .ok (.if_icmp .eq 74, 3) := by decide +kernel
theorem dL_law_1047 : decode cL_law 1047 = .ok (.iconst 0, 1) := by decide +kernel
theorem dL_law_1048 : decode cL_law 1048 = .ok (.ireturn, 1) := by decide +kernel
theorem dL_law_1049 : decode cL_law 1049 = .ok (.aload_n 1, 1) := by decide +kernel
theorem dL_law_1050 : decode cL_law 1050 = .ok (.aload_n 0, 1) := by decide +kernel
theorem dL_law_1051 : decode cL_law 1051 = .ok (.iload 5, 2) := by decide +kernel
theorem dL_law_1053 : decode cL_law 1053 = .ok (.iconst 1, 1) := by decide +kernel
theorem dL_law_1054 : decode cL_law 1054 = .ok (.iadd, 1) := by decide +kernel
theorem dL_law_1055 : decode cL_law 1055 = .ok (.iaload, 1) := by decide +kernel
theorem dL_law_1056 : decode cL_law 1056 = .ok (.aload_n 3, 1) := by decide +kernel
theorem dL_law_1057 : decode cL_law 1057 = .ok (.invokestatic 133, 3) := by decide +kernel
theorem dL_law_1060 : decode cL_law 1060 = .ok (.istore 6, 2) := by decide +kernel
theorem dL_law_1062 : decode cL_law 1062 = .ok (.aload_n 2, 1) := by decide +kernel
theorem dL_law_1063 : decode cL_law 1063 = .ok (.aload_n 0, 1) := by decide +kernel
theorem dL_law_1064 : decode cL_law 1064 = .ok (.iload 5, 2) := by decide +kernel
theorem dL_law_1066 : decode cL_law 1066 = .ok (.iconst 1, 1) := by decide +kernel
theorem dL_law_1067 : decode cL_law 1067 = .ok (.iadd, 1) := by decide +kernel
theorem dL_law_1068 : decode cL_law 1068 = .ok (.iaload, 1) := by decide +kernel
theorem dL_law_1069 : decode cL_law 1069 = .ok (.invokevirtual 135, 3) := by decide +kernel
theorem dL_law_1072 : decode cL_law 1072 = .ok (.istore 7, 2) := by decide +kernel
theorem dL_law_1074 : decode cL_law 1074 = .ok (.aload_n 2, 1) := by decide +kernel
theorem dL_law_1075 : decode cL_law 1075 = .ok (.invokevirtual 73, 3) := by decide +kernel
theorem dL_law_1078 : decode cL_law 1078 = .ok (.iload 6, 2) := by decide +kernel
theorem dL_law_1080 : decode cL_law 1080 = .ok (.if_icmp .eq 5, 3) := by decide +kernel
theorem dL_law_1083 : decode cL_law 1083 = .ok (.iconst 0, 1) := by decide +kernel
theorem dL_law_1084 : decode cL_law 1084 = .ok (.ireturn, 1) := by decide +kernel
theorem dL_law_1085 : decode cL_law 1085 = .ok (.iload 6, 2) := by decide +kernel
theorem dL_law_1087 : decode cL_law 1087 = .ok (.ifCond .ne 15, 3) := by decide +kernel
theorem dL_law_1090 : decode cL_law 1090 = .ok (.aload_n 3, 1) := by decide +kernel
theorem dL_law_1091 : decode cL_law 1091 = .ok (.iconst 0, 1) := by decide +kernel
theorem dL_law_1092 : decode cL_law 1092 = .ok (.laload, 1) := by decide +kernel
theorem dL_law_1093 : decode cL_law 1093 = .ok (.iload 7, 2) := by decide +kernel
theorem dL_law_1095 : decode cL_law 1095 = .ok (.i2l, 1) := by decide +kernel
theorem dL_law_1096 : decode cL_law 1096 = .ok (.lcmp, 1) := by decide +kernel
theorem dL_law_1097 : decode cL_law 1097 = .ok (.ifCond .eq 5, 3) := by decide +kernel
theorem dL_law_1100 : decode cL_law 1100 = .ok (.iconst 0, 1) := by decide +kernel
theorem dL_law_1101 : decode cL_law 1101 = .ok (.ireturn, 1) := by decide +kernel
theorem dL_law_1102 : decode cL_law 1102 = .ok (.goto 16, 3) := by decide +kernel
theorem dL_law_1105 : decode cL_law 1105 = .ok (.aload_n 1, 1) := by decide +kernel
theorem dL_law_1106 : decode cL_law 1106 = .ok (.invokevirtual 136, 3) := by decide +kernel
theorem dL_law_1109 : decode cL_law 1109 = .ok (.aload_n 2, 1) := by decide +kernel
theorem dL_law_1110 : decode cL_law 1110 = .ok (.invokevirtual 139, 3) := by decide +kernel
theorem dL_law_1113 : decode cL_law 1113 = .ok (.if_icmp .eq 5, 3) := by decide +kernel
theorem dL_law_1116 : decode cL_law 1116 = .ok (.iconst 0, 1) := by decide +kernel
theorem dL_law_1117 : decode cL_law 1117 = .ok (.ireturn, 1) := by decide +kernel
theorem dL_law_1118 : decode cL_law 1118 = .ok (.iinc 5 2, 3) := by decide +kernel
theorem dL_law_1121 : decode cL_law 1121 = .ok (.goto (-1093), 3) := by decide +kernel
theorem dL_law_1124 : decode cL_law 1124 = .ok (.iconst 1, 1) := by decide +kernel
theorem dL_law_1125 : decode cL_law 1125 = .ok (.ireturn, 1) := by decide +kernel
abbrev vwCl : List vw_C := [(RX0, TX0, 1), (RX1, TX1, 7), (RX2, TX2, 6), (RX3, TX3, 4), (RX4, TX4, 17)]
end
section
/-! own rows: contracts over one shape, calls with their frame, rows by a numbered place, a loop -/
abbrev zq_T (cI cZ cD : ClassId) : List (ClassId × FieldType) := [(cI, .int), (cZ, .boolean), (cD, .double)]
def zq_Pre (D : va_G) (ty : List (ClassId × FieldType)) (ws : va_W) (sz : Nat) : State → Prop := fun U => U.heap.size = sz ∧ va_P D vwCl ws U.heap ∧ va_K D vwCl ty U ∧ va_D (fun _ => True) ws
def zq_B (D : va_G) (ty : List (ClassId × FieldType)) (A : Nat → Prop) (ws : va_W) : Unit → State → Prop := fun _ t => va_P D vwCl ws t.heap ∧ va_K D vwCl ty t ∧ va_D A ws
abbrev zq_Mi (l : Launch) (y : MethodName) (wsy : List Cond) (rm : Room) (D : va_G) (ty : List (ClassId × FieldType)) (as : List Value) (w0 : va_W) (res : Int32) (w1 : va_W) (sz : Nat) : Prop :=
  Met l y wsy rm (va_Pc as (zq_Pre D ty w0 sz)) (va_Qi (fun (r : Int32) (_ : Unit) => r = res) (zq_B D ty (va_A w0 sz) w1) (va_A w0 sz)) 0 0 (va_A w0 sz)
abbrev zq_Md (l : Launch) (y : MethodName) (wsy : List Cond) (rm : Room) (D : va_G) (ty : List (ClassId × FieldType)) (as : List Value) (w0 : va_W) (res : UInt64) (w1 : va_W) (sz : Nat) : Prop :=
  Met l y wsy rm (va_Pc as (zq_Pre D ty w0 sz)) (va_Qd (fun (r : UInt64) (_ : Unit) => r = res) (zq_B D ty (va_A w0 sz) w1) (va_A w0 sz)) 0 0 (va_A w0 sz)
abbrev zq_Mv (l : Launch) (y : MethodName) (wsy : List Cond) (rm : Room) (D : va_G) (ty : List (ClassId × FieldType)) (as : List Value) (w0 : va_W) (w1 : va_W) (sz : Nat) : Prop :=
  Met l y wsy rm (va_Pc as (zq_Pre D ty w0 sz)) (va_Qv (fun (_ : Unit) => True) (zq_B D ty (va_A w0 sz) w1) (va_A w0 sz)) 0 0 (va_A w0 sz)
abbrev zq_Si (l : Launch) (y : MethodName) (wsy : List Cond) (rm : Room) (as : List Value) (res : Int32) : Prop :=
  Met l y wsy rm (va_Pc as (fun _ => True)) (va_Qi (fun (r : Int32) (_ : Unit) => r = res) (fun _ _ => True) (fun _ => False)) 0 0 (fun _ => False)
abbrev zq_Sd (l : Launch) (y : MethodName) (wsy : List Cond) (rm : Room) (as : List Value) (res : UInt64) : Prop :=
  Met l y wsy rm (va_Pc as (fun _ => True)) (va_Qd (fun (r : UInt64) (_ : Unit) => r = res) (fun _ _ => True) (fun _ => False)) 0 0 (fun _ => False)
theorem zq_blind {as : List Value} {D : va_G} {ty : List (ClassId × FieldType)} {ws : va_W} {sz : Nat} : FrameBlind (va_Pc as (zq_Pre D ty ws sz)) :=
  fun a U g mk q => by
    obtain ⟨q0, q1, qP, qK, qD⟩ := q
    exact ⟨q0, q1, qP, va_K.moved (u := U) (U := U.calling g mk a) (Vm.Alike.refl U.vm) qK, qD⟩
theorem zq_fm {α β : Type} {f : α → Option β} : ∀ {is : List α} {wc : List β}, is.map f = wc.map some → is.filterMap f = wc
  | [], wc, h => by cases wc with | nil => rfl | cons _ _ => simp at h
  | i :: is, wc, h => by
    cases wc with
    | nil => simp at h
    | cons w wc =>
      simp only [List.map_cons, List.cons.injEq] at h
      rw [List.filterMap_cons, h.1, zq_fm h.2]
section ZQ
variable {p : Program} {l : Launch} {e : Env} {R : Room} {s : State} {m : MethodId} {args : Array Value} {below : List Frame} {meth : Method} {c : Code} {H : Heap} {locs : List Loc} {cells slots : Nat} {Q : State → Prop} {cc : ByteArray} {pc : Nat} {ls : Array Slot} {rest st0 : List Value}
variable {D : va_G} {ty : List (ClassId × FieldType)} {A : Nat → Prop} {H0 : Heap} {ws wc wr w1 ws' : va_W} {y : MethodName} {bytes : ByteArray} {maxL nL n index : Nat} {ret : Option FieldType} {wsy Ts : List Cond} {rm : Room} {own C : String} {b ci N : Nat} {T : u_T} {fs As : List Value}
/-- behind a call on some of the cells: what came back beside the rest, in the order pm -/
theorem zq_back {H1 : Heap} {t : State} (hP : va_P D vwCl ws H) (hD : va_D A ws) (hS : va_S A H0 H locs) (hA : ∀ q, H0.size ≤ q → A q) (isC isR : List Nat) (hC : isC.map (fun i => ws[i]?) = wc.map some) (hR : isR.map (fun i => ws[i]?) = wr.map some) (hn : va_nd isR = true) (hdis : ∀ i ∈ isR, i ∉ isC)
    (pm : List Nat) (hpm : pm.map (fun i => (wr ++ w1)[i]?) = ws'.map some) (hnp : va_nd pm = true) (ht : t.heap = H1) (hk : ∀ q : Nat, q < H.size → ¬ va_A wc H.size q → H1[q]? = H[q]?) (hB : zq_B D ty (va_A wc H.size) w1 () t) : va_P D vwCl ws' H1 ∧ va_D A ws' := by
  obtain ⟨hP1, -, hD1⟩ := hB
  rw [ht] at hP1
  obtain ⟨hP2, hD2⟩ := va_join (wr := wr) (w1 := w1) hP hD isC isR hC hR hn hdis hk (va_free hD hS hA isC hC) hP1 hD1
  exact ⟨hP2.sub pm (zq_fm hpm), hD2.sub pm hnp hpm⟩
theorem zq_pre (hK : va_K D vwCl ty s) (hP : va_P D vwCl ws H) (hD : va_D A ws) (isC : List Nat) (hC : isC.map (fun i => ws[i]?) = wc.map some) (hnC : va_nd isC = true) : ∀ U : State, U.heap = H → s.WarmedH U.vm → va_Pc As (zq_Pre D ty wc H.size) As.toArray U :=
  fun U hU hW => ⟨rfl, by rw [hU], by rw [hU]; exact hP.sub isC (zq_fm hC), va_K.moved hW.alike hK, (hD.sub isC hnC hC).weaken (fun _ _ _ _ => trivial)⟩
theorem zq_cVi {res : Int32} (S : CallFix p m c cc nL s args Ts own) (hM : zq_Mi l y wsy rm D ty (.ref b :: As) wc res w1 H.size) (cw : CallW R s args own C index y bytes maxL ret wsy rm 0 0 n)
    (hK : va_K D vwCl ty s) (hP : va_P D vwCl ws H) (hD : va_D A ws) (hS : va_S A H0 H locs) (hA : ∀ q, H0.size ≤ q → A q) (isC isR pm : List Nat) (hC : isC.map (fun i => ws[i]?) = wc.map some) (hnC : va_nd isC = true) (hR : isR.map (fun i => ws[i]?) = wr.map some) (hn : va_nd isR = true) (hdis : ∀ i ∈ isR, i ∉ isC)
    (hpm : pm.map (fun i => (wr ++ w1)[i]?) = ws'.map some) (hnp : va_nd pm = true) (hc : vwCl[ci]? = some (C, T, N)) (q0 : Nat) (he : wc[q0]? = some (b, .inr (ci, fs))) (hln : As.length = n) (hsz : ls.size = nL) (hst : st0 = As.reverse ++ .ref b :: rest) (hW : (rest.map fun v => v.category).sum ≤ 8) (hdg : decode cc pc = .ok (.invokevirtual index, 3)) (hcs : cells ≤ R.cells ∧ slots ≤ R.slots)
    (kk : ∀ (H1 : Heap) (locs1 : List Loc), va_P D vwCl ws' H1 → va_D A ws' → va_S A H0 H1 locs1 → W p l e R s m args below meth c H1 locs1 cells slots Q (F0 m (pc + 3) ls (.int res :: rest))) : W p l e R s m args below meth c H locs cells slots Q (F0 m pc ls st0) := by
  have hFc := va_free hD hS hA isC hC
  refine va_calli (va_runV (As := As) (rest := rest) S hM cw ⟨zq_blind, va_recv hK (hP.sub isC (zq_fm hC)) hc he, zq_pre hK hP hD isC hC hnC⟩ rfl hln hsz hst (lv_room hW) hdg hcs) hS (fun q _ h => hFc q h) hFc (fun r u t H1 locs1 ht hvm hw hB hz1 hk1 hS1 => ?_)
  subst hw
  obtain ⟨h1, h2⟩ := zq_back hP hD hS hA isC isR hC hR hn hdis pm hpm hnp ht hk1 hB
  exact kk H1 locs1 h1 h2 hS1
theorem zq_cVd {res : UInt64} (S : CallFix p m c cc nL s args Ts own) (hM : zq_Md l y wsy rm D ty (.ref b :: As) wc res w1 H.size) (cw : CallW R s args own C index y bytes maxL ret wsy rm 0 0 n)
    (hK : va_K D vwCl ty s) (hP : va_P D vwCl ws H) (hD : va_D A ws) (hS : va_S A H0 H locs) (hA : ∀ q, H0.size ≤ q → A q) (isC isR pm : List Nat) (hC : isC.map (fun i => ws[i]?) = wc.map some) (hnC : va_nd isC = true) (hR : isR.map (fun i => ws[i]?) = wr.map some) (hn : va_nd isR = true) (hdis : ∀ i ∈ isR, i ∉ isC)
    (hpm : pm.map (fun i => (wr ++ w1)[i]?) = ws'.map some) (hnp : va_nd pm = true) (hc : vwCl[ci]? = some (C, T, N)) (q0 : Nat) (he : wc[q0]? = some (b, .inr (ci, fs))) (hln : As.length = n) (hsz : ls.size = nL) (hst : st0 = As.reverse ++ .ref b :: rest) (hW : (rest.map fun v => v.category).sum ≤ 8) (hdg : decode cc pc = .ok (.invokevirtual index, 3)) (hcs : cells ≤ R.cells ∧ slots ≤ R.slots)
    (kk : ∀ (H1 : Heap) (locs1 : List Loc), va_P D vwCl ws' H1 → va_D A ws' → va_S A H0 H1 locs1 → W p l e R s m args below meth c H1 locs1 cells slots Q (F0 m (pc + 3) ls (.double res :: rest))) : W p l e R s m args below meth c H locs cells slots Q (F0 m pc ls st0) := by
  have hFc := va_free hD hS hA isC hC
  refine va_calld (va_runV (As := As) (rest := rest) S hM cw ⟨zq_blind, va_recv hK (hP.sub isC (zq_fm hC)) hc he, zq_pre hK hP hD isC hC hnC⟩ rfl hln hsz hst (lv_room hW) hdg hcs) hS (fun q _ h => hFc q h) hFc (fun r u t H1 locs1 ht hvm hw hB hz1 hk1 hS1 => ?_)
  subst hw
  obtain ⟨h1, h2⟩ := zq_back hP hD hS hA isC isR hC hR hn hdis pm hpm hnp ht hk1 hB
  exact kk H1 locs1 h1 h2 hS1
theorem zq_cVv (S : CallFix p m c cc nL s args Ts own) (hM : zq_Mv l y wsy rm D ty (.ref b :: As) wc w1 H.size) (cw : CallW R s args own C index y bytes maxL ret wsy rm 0 0 n)
    (hK : va_K D vwCl ty s) (hP : va_P D vwCl ws H) (hD : va_D A ws) (hS : va_S A H0 H locs) (hA : ∀ q, H0.size ≤ q → A q) (isC isR pm : List Nat) (hC : isC.map (fun i => ws[i]?) = wc.map some) (hnC : va_nd isC = true) (hR : isR.map (fun i => ws[i]?) = wr.map some) (hn : va_nd isR = true) (hdis : ∀ i ∈ isR, i ∉ isC)
    (hpm : pm.map (fun i => (wr ++ w1)[i]?) = ws'.map some) (hnp : va_nd pm = true) (hc : vwCl[ci]? = some (C, T, N)) (q0 : Nat) (he : wc[q0]? = some (b, .inr (ci, fs))) (hln : As.length = n) (hsz : ls.size = nL) (hst : st0 = As.reverse ++ .ref b :: rest) (hW : (rest.map fun v => v.category).sum ≤ 8) (hdg : decode cc pc = .ok (.invokevirtual index, 3)) (hcs : cells ≤ R.cells ∧ slots ≤ R.slots)
    (kk : ∀ (H1 : Heap) (locs1 : List Loc), va_P D vwCl ws' H1 → va_D A ws' → va_S A H0 H1 locs1 → W p l e R s m args below meth c H1 locs1 cells slots Q (F0 m (pc + 3) ls rest)) : W p l e R s m args below meth c H locs cells slots Q (F0 m pc ls st0) := by
  have hFc := va_free hD hS hA isC hC
  refine va_callv (va_runV (As := As) (rest := rest) S hM cw ⟨zq_blind, va_recv hK (hP.sub isC (zq_fm hC)) hc he, zq_pre hK hP hD isC hC hnC⟩ rfl hln hsz hst (lv_room hW) hdg hcs) hS (fun q _ h => hFc q h) hFc (fun u t H1 locs1 ht hvm hw hB hz1 hk1 hS1 => ?_)
  obtain ⟨h1, h2⟩ := zq_back hP hD hS hA isC isR hC hR hn hdis pm hpm hnp ht hk1 hB
  exact kk H1 locs1 h1 h2 hS1
theorem zq_cSi {res : Int32} (S : CallFix p m c cc nL s args Ts own) (hM : zq_Si l y wsy rm As res) (cw : CallB R s args own index y bytes maxL ret wsy rm 0 0 n ∧ (Cond.static y).before args s = true)
    (hP : va_P D vwCl ws H) (hS : va_S A H0 H locs) (hln : As.length = n) (hsz : ls.size = nL) (hst : st0 = As.reverse ++ rest) (hW : (rest.map fun v => v.category).sum ≤ 8) (hdg : decode cc pc = .ok (.invokestatic index, 3)) (hcs : cells ≤ R.cells ∧ slots ≤ R.slots)
    (kk : ∀ (H1 : Heap) (locs1 : List Loc), va_P D vwCl ws H1 → va_S A H0 H1 locs1 → W p l e R s m args below meth c H1 locs1 cells slots Q (F0 m (pc + 3) ls (.int res :: rest))) : W p l e R s m args below meth c H locs cells slots Q (F0 m pc ls st0) := by
  refine va_calli (va_runS (As := As) (rest := rest) S hM cw ⟨fun a U g mk q => q, fun U hU hW => ⟨rfl, trivial⟩⟩ rfl hln hsz hst (lv_room hW) hdg hcs) hS (fun q _ h => h.elim) (fun q h => h.elim) (fun r u t H1 locs1 ht hvm hw hB hz1 hk1 hS1 => ?_)
  subst hw
  exact kk H1 locs1 (hP.kept (fun k q hk => hk1 q.1 (vx_lt hP hk) (fun h => h))) hS1
theorem zq_cSd {res : UInt64} (S : CallFix p m c cc nL s args Ts own) (hM : zq_Sd l y wsy rm As res) (cw : CallB R s args own index y bytes maxL ret wsy rm 0 0 n ∧ (Cond.static y).before args s = true)
    (hP : va_P D vwCl ws H) (hS : va_S A H0 H locs) (hln : As.length = n) (hsz : ls.size = nL) (hst : st0 = As.reverse ++ rest) (hW : (rest.map fun v => v.category).sum ≤ 8) (hdg : decode cc pc = .ok (.invokestatic index, 3)) (hcs : cells ≤ R.cells ∧ slots ≤ R.slots)
    (kk : ∀ (H1 : Heap) (locs1 : List Loc), va_P D vwCl ws H1 → va_S A H0 H1 locs1 → W p l e R s m args below meth c H1 locs1 cells slots Q (F0 m (pc + 3) ls (.double res :: rest))) : W p l e R s m args below meth c H locs cells slots Q (F0 m pc ls st0) := by
  refine va_calld (va_runS (As := As) (rest := rest) S hM cw ⟨fun a U g mk q => q, fun U hU hW => ⟨rfl, trivial⟩⟩ rfl hln hsz hst (lv_room hW) hdg hcs) hS (fun q _ h => h.elim) (fun q h => h.elim) (fun r u t H1 locs1 ht hvm hw hB hz1 hk1 hS1 => ?_)
  subst hw
  exact kk H1 locs1 (hP.kept (fun k q hk => hk1 q.1 (vx_lt hP hk) (fun h => h))) hS1
/-- a loop by its number of turns: what holds at its head with i turns done -/
theorem zq_loop (pc : Nat) (B : Nat) (Inv : Nat → Heap → List Loc → Array Slot → Prop)
    (hs : ∀ i, i ≤ B → (∀ (H : Heap) (locs : List Loc) (ls : Array Slot), i < B → Inv (i + 1) H locs ls → W p l e R s m args below meth c H locs cells slots Q (F0 m pc ls [])) → ∀ (H : Heap) (locs : List Loc) (ls : Array Slot), Inv i H locs ls → W p l e R s m args below meth c H locs cells slots Q (F0 m pc ls []))
    (i : Nat) (hi : i ≤ B) (H : Heap) (locs : List Loc) (ls : Array Slot) (h : Inv i H locs ls) : W p l e R s m args below meth c H locs cells slots Q (F0 m pc ls []) := by
  have K : ∀ (n i : Nat), i + n = B → ∀ (H : Heap) (locs : List Loc) (ls : Array Slot), Inv i H locs ls → W p l e R s m args below meth c H locs cells slots Q (F0 m pc ls []) := by
    intro n
    induction n with
    | zero => exact fun i e H locs ls h => hs i (by omega) (fun _ _ _ h => absurd h (by omega)) H locs ls h
    | succ n ih => exact fun i e H locs ls h => hs i (by omega) (fun H1 locs1 ls1 _ h2 => ih (i + 1) (by omega) H1 locs1 ls1 h2) H locs ls h
  exact K (B - i) i (by omega) H locs ls h
/-- rows by a numbered place -/
theorem zq_iald (hexec : p.tables.exec = Jvm.exec) (hb : c.code = cc) (hK : va_K D vwCl ty s) (hP : va_P D vwCl ws H) (q0 t0 : Nat) {a : Nat} {cA : ClassId} {n : Nat} {f : Nat → Int32} (ha : ws[q0]? = some (a, .inl (cA, n, .inl f))) (ht : ty[t0]? = some (cA, .int)) {j : Nat} (hj : j < n) (hn : n < 2 ^ 31) (hdg : decode cc pc = .ok (.iaload, 1))
    (kk : W p l e R s m args below meth c H locs cells slots Q (F0 m (pc + 1) ls (.int (f j) :: rest))) : W p l e R s m args below meth c H locs cells slots Q (F0 m pc ls (.int (nI j) :: .ref a :: rest)) :=
  va_iald hexec hb hK hP q0 t0 ha ht (vp_in_nI hj hn) hdg (by rw [nI_clamp (Nat.lt_trans hj hn)]; exact kk)
theorem zq_zald (hexec : p.tables.exec = Jvm.exec) (hb : c.code = cc) (hK : va_K D vwCl ty s) (hP : va_P D vwCl ws H) (q0 t0 : Nat) {a : Nat} {cA : ClassId} {n : Nat} {f : Nat → Int32} (ha : ws[q0]? = some (a, .inl (cA, n, .inl f))) (ht : ty[t0]? = some (cA, .boolean)) {j : Nat} (hj : j < n) (hn : n < 2 ^ 31) (hdg : decode cc pc = .ok (.baload, 1))
    (kk : W p l e R s m args below meth c H locs cells slots Q (F0 m (pc + 1) ls (.int (f j) :: rest))) : W p l e R s m args below meth c H locs cells slots Q (F0 m pc ls (.int (nI j) :: .ref a :: rest)) :=
  va_zald hexec hb hK hP q0 t0 ha ht (vp_in_nI hj hn) hdg (by rw [nI_clamp (Nat.lt_trans hj hn)]; exact kk)
theorem zq_dald (hexec : p.tables.exec = Jvm.exec) (hb : c.code = cc) (hK : va_K D vwCl ty s) (hP : va_P D vwCl ws H) (q0 t0 : Nat) {a : Nat} {cA : ClassId} {n : Nat} {f : Nat → UInt64} (ha : ws[q0]? = some (a, .inl (cA, n, .inr (.inr (.inr (.inl f)))))) (ht : ty[t0]? = some (cA, .double)) {j : Nat} (hj : j < n) (hn : n < 2 ^ 31) (hdg : decode cc pc = .ok (.daload, 1))
    (kk : W p l e R s m args below meth c H locs cells slots Q (F0 m (pc + 1) ls (.double (f j) :: rest))) : W p l e R s m args below meth c H locs cells slots Q (F0 m pc ls (.int (nI j) :: .ref a :: rest)) :=
  va_dald hexec hb hK hP q0 t0 ha ht (vp_in_nI hj hn) hdg (by rw [nI_clamp (Nat.lt_trans hj hn)]; exact kk)
theorem zq_iast (hexec : p.tables.exec = Jvm.exec) (hb : c.code = cc) (hK : va_K D vwCl ty s) (hP : va_P D vwCl ws H) (hD : va_D A ws) (hS : va_S A H0 H locs) (q0 t0 : Nat) {a : Nat} {cA : ClassId} {n : Nat} {f : Nat → Int32} (ha : ws[q0]? = some (a, .inl (cA, n, .inl f))) (ht : ty[t0]? = some (cA, .int)) {j : Nat} {x : Int32} (hj : j < n) (hn : n < 2 ^ 31) (ws' : va_W) (hw : ws.set q0 (a, .inl (cA, n, .inl (upd f j x))) = ws') (hdg : decode cc pc = .ok (.iastore, 1))
    (kk : ∀ (H1 : Heap) (locs1 : List Loc), va_P D vwCl ws' H1 → va_D A ws' → va_S A H0 H1 locs1 → W p l e R s m args below meth c H1 locs1 cells slots Q (F0 m (pc + 1) ls rest)) : W p l e R s m args below meth c H locs cells slots Q (F0 m pc ls (.int x :: .int (nI j) :: .ref a :: rest)) :=
  va_iast hexec hb hK hP hD hS q0 t0 ha ht (vp_in_nI hj hn) hdg (by rw [nI_clamp (Nat.lt_trans hj hn), hw]; exact kk)
theorem zq_zast (hexec : p.tables.exec = Jvm.exec) (hb : c.code = cc) (hK : va_K D vwCl ty s) (hP : va_P D vwCl ws H) (hD : va_D A ws) (hS : va_S A H0 H locs) (q0 t0 : Nat) {a : Nat} {cA : ClassId} {n : Nat} {f : Nat → Int32} (ha : ws[q0]? = some (a, .inl (cA, n, .inl f))) (ht : ty[t0]? = some (cA, .boolean)) {j : Nat} {x : Int32} (hj : j < n) (hn : n < 2 ^ 31) (hx : vp_nar .boolean x = x) (ws' : va_W) (hw : ws.set q0 (a, .inl (cA, n, .inl (upd f j x))) = ws') (hdg : decode cc pc = .ok (.bastore, 1))
    (kk : ∀ (H1 : Heap) (locs1 : List Loc), va_P D vwCl ws' H1 → va_D A ws' → va_S A H0 H1 locs1 → W p l e R s m args below meth c H1 locs1 cells slots Q (F0 m (pc + 1) ls rest)) : W p l e R s m args below meth c H locs cells slots Q (F0 m pc ls (.int x :: .int (nI j) :: .ref a :: rest)) :=
  va_zast hexec hb hK hP hD hS q0 t0 ha ht (vp_in_nI hj hn) hdg (by rw [hx, nI_clamp (Nat.lt_trans hj hn), hw]; exact kk)
theorem zq_dast (hexec : p.tables.exec = Jvm.exec) (hb : c.code = cc) (hK : va_K D vwCl ty s) (hP : va_P D vwCl ws H) (hD : va_D A ws) (hS : va_S A H0 H locs) (q0 t0 : Nat) {a : Nat} {cA : ClassId} {n : Nat} {f : Nat → UInt64} (ha : ws[q0]? = some (a, .inl (cA, n, .inr (.inr (.inr (.inl f)))))) (ht : ty[t0]? = some (cA, .double)) {j : Nat} {x : UInt64} (hj : j < n) (hn : n < 2 ^ 31) (ws' : va_W) (hw : ws.set q0 (a, .inl (cA, n, .inr (.inr (.inr (.inl (vf_upd f j x)))))) = ws') (hdg : decode cc pc = .ok (.dastore, 1))
    (kk : ∀ (H1 : Heap) (locs1 : List Loc), va_P D vwCl ws' H1 → va_D A ws' → va_S A H0 H1 locs1 → W p l e R s m args below meth c H1 locs1 cells slots Q (F0 m (pc + 1) ls rest)) : W p l e R s m args below meth c H locs cells slots Q (F0 m pc ls (.double x :: .int (nI j) :: .ref a :: rest)) :=
  va_dast hexec hb hK hP hD hS q0 t0 ha ht (vp_in_nI hj hn) hdg (by rw [nI_clamp (Nat.lt_trans hj hn), hw]; exact kk)
end ZQ
end
section
theorem zq_qi {D : va_G} {ty : List (ClassId × FieldType)} {A : Nat → Prop} {w1 : va_W} {s : State} {H : Heap} {locs : List Loc} {args : Array Value} {v res : Int32} (hv : v = res) (hP : va_P D vwCl w1 H) (hK : va_K D vwCl ty s) (hD : va_D A w1) (hS : va_S A s.heap H locs) : ∀ t : State, t.heap = H → s.WarmedH t.vm → va_Qi (fun (r : Int32) (_ : Unit) => r = res) (zq_B D ty A w1) A args s (.returned (some (.int v))) t :=
  fun t ht hW => ⟨⟨v, (), rfl, hv, by rw [ht]; exact hP, va_K.moved hW.alike hK, hD⟩, hS.F ht⟩
theorem zq_qd {D : va_G} {ty : List (ClassId × FieldType)} {A : Nat → Prop} {w1 : va_W} {s : State} {H : Heap} {locs : List Loc} {args : Array Value} {v res : UInt64} (hv : v = res) (hP : va_P D vwCl w1 H) (hK : va_K D vwCl ty s) (hD : va_D A w1) (hS : va_S A s.heap H locs) : ∀ t : State, t.heap = H → s.WarmedH t.vm → va_Qd (fun (r : UInt64) (_ : Unit) => r = res) (zq_B D ty A w1) A args s (.returned (some (.double v))) t :=
  fun t ht hW => ⟨⟨v, (), rfl, hv, by rw [ht]; exact hP, va_K.moved hW.alike hK, hD⟩, hS.F ht⟩
theorem zq_qv {D : va_G} {ty : List (ClassId × FieldType)} {A : Nat → Prop} {w1 : va_W} {s : State} {H : Heap} {locs : List Loc} {args : Array Value} (hP : va_P D vwCl w1 H) (hK : va_K D vwCl ty s) (hD : va_D A w1) (hS : va_S A s.heap H locs) : ∀ t : State, t.heap = H → s.WarmedH t.vm → va_Qv (fun (_ : Unit) => True) (zq_B D ty A w1) A args s (.returned none) t :=
  fun t ht hW => ⟨⟨(), rfl, trivial, by rw [ht]; exact hP, va_K.moved hW.alike hK, hD⟩, hS.F ht⟩
theorem zq_P0 {D : va_G} {H : Heap} : va_P D vwCl [] H := fun k q h => by simp at h
theorem zq_idiv {p : Program} {l : Launch} {e : Env} {R : Room} {s : State} {m : MethodId} {args : Array Value} {below : List Frame} {meth : Method} {c : Code} {H : Heap} {locs : List Loc} {cells slots : Nat} {Q : State → Prop} {cc : ByteArray} (hexec : p.tables.exec = Jvm.exec) (hb : c.code = cc) {x y : Int32} {pc : Nat} {ls : Array Slot} {rest : List Value} (hdg : decode cc pc = .ok (.idiv, 1)) (hne : ¬ y = 0) {v : Int32} (hv : x / y = v)
    (k : W p l e R s m args below meth c H locs cells slots Q (F0 m (pc + 1) ls (.int v :: rest))) : W p l e R s m args below meth c H locs cells slots Q (F0 m pc ls (.int y :: .int x :: rest)) := by
  subst hv
  exact lv_idiv hexec hb hdg hne k
abbrev wLa (a : Nat → Nat) (cI : ClassId) (cZ : ClassId) (cD : ClassId) (ki : Nat → Int32) (pl : Nat → Int32) (tu : Nat → Int32) (le : Nat → Int32) (ch : Nat → UInt64) (ca : Nat → UInt64) (n : Int32) : va_W := [(a 1, .inr (1, [.ref (a 2), .ref (a 3), .ref (a 4), .ref (a 5), .ref (a 6), .ref (a 7), .int n])), (a 2, .inl (cI, 40, .inl ki)), (a 3, .inl (cI, 40, .inl pl)), (a 4, .inl (cI, 40, .inl tu)), (a 5, .inl (cZ, 40, .inl le)), (a 6, .inl (cD, 40, .inr (.inr (.inr (.inl ch))))), (a 7, .inl (cD, 40, .inr (.inr (.inr (.inl ca)))))]
abbrev wTa (a : Nat → Nat) (cI : ClassId) (tk : Nat → Int32) (th : Nat → Int32) (hu : Nat → Int32) (od : Nat → Int32) (tn : Int32) (ti : Int32) : va_W := [(a 8, .inr (2, [.ref (a 9), .ref (a 10), .ref (a 11), .ref (a 12), .int tn, .int ti])), (a 9, .inl (cI, 30, .inl tk)), (a 10, .inl (cI, 30, .inl th)), (a 11, .inl (cI, 30, .inl hu)), (a 12, .inl (cI, 30, .inl od))]
abbrev wAl (a : Nat → Nat) (cI : ClassId) (be : Nat → Int32) : va_W := [(a 13, .inr (0, [.ref (a 14)])), (a 14, .inl (cI, 60, .inl be))]
abbrev wRm (a : Nat → Nat) (clk : Int32) : Nat × va_E := (a 0, .inr (3, [.ref (a 1), .ref (a 8), .ref (a 13), .int clk]))
abbrev wRo (a : Nat → Nat) (cI : ClassId) (cZ : ClassId) (cD : ClassId) (ki : Nat → Int32) (pl : Nat → Int32) (tu : Nat → Int32) (le : Nat → Int32) (ch : Nat → UInt64) (ca : Nat → UInt64) (n : Int32) (tk : Nat → Int32) (th : Nat → Int32) (hu : Nat → Int32) (od : Nat → Int32) (tn : Int32) (ti : Int32) (be : Nat → Int32) (clk : Int32) : va_W := [(a 0, .inr (3, [.ref (a 1), .ref (a 8), .ref (a 13), .int clk])), (a 1, .inr (1, [.ref (a 2), .ref (a 3), .ref (a 4), .ref (a 5), .ref (a 6), .ref (a 7), .int n])), (a 2, .inl (cI, 40, .inl ki)), (a 3, .inl (cI, 40, .inl pl)), (a 4, .inl (cI, 40, .inl tu)), (a 5, .inl (cZ, 40, .inl le)), (a 6, .inl (cD, 40, .inr (.inr (.inr (.inl ch))))), (a 7, .inl (cD, 40, .inr (.inr (.inr (.inl ca))))), (a 8, .inr (2, [.ref (a 9), .ref (a 10), .ref (a 11), .ref (a 12), .int tn, .int ti])), (a 9, .inl (cI, 30, .inl tk)), (a 10, .inl (cI, 30, .inl th)), (a 11, .inl (cI, 30, .inl hu)), (a 12, .inl (cI, 30, .inl od)), (a 13, .inr (0, [.ref (a 14)])), (a 14, .inl (cI, 60, .inl be))]
abbrev wMo (b : Nat → Nat) (cI : ClassId) (cZ : ClassId) (cD : ClassId) (mt : Int32) (mh : Int32) (ml : Int32) (ki : Nat → Int32) (pl : Nat → Int32) (tu : Nat → Int32) (le : Nat → Int32) (ch : Nat → UInt64) (ca : Nat → UInt64) (mm : Int32) (wa : Nat → Int32) (la : Nat → Int32) (si : Nat → Int32) (mb : Int32) (bo : Nat → Int32) (ma : Int32) (al : Nat → Int32) : va_W := [(b 0, .inr (4, [.int mt, .int mh, .int ml, .ref (b 1), .ref (b 2), .ref (b 3), .ref (b 4), .ref (b 5), .ref (b 6), .int mm, .ref (b 7), .ref (b 8), .ref (b 9), .int mb, .ref (b 10), .int ma, .ref (b 11)])), (b 1, .inl (cI, 40, .inl ki)), (b 2, .inl (cI, 40, .inl pl)), (b 3, .inl (cI, 40, .inl tu)), (b 4, .inl (cZ, 40, .inl le)), (b 5, .inl (cD, 40, .inr (.inr (.inr (.inl ch))))), (b 6, .inl (cD, 40, .inr (.inr (.inr (.inl ca))))), (b 7, .inl (cI, 30, .inl wa)), (b 8, .inl (cI, 30, .inl la)), (b 9, .inl (cI, 30, .inl si)), (b 10, .inl (cI, 30, .inl bo)), (b 11, .inl (cI, 60, .inl al))]
end
section
/-! own words: what the loops work out, by numbers of turns -/
def zb (b : Bool) : Int32 := if b = true then 1 else 0
theorem zb_eq {b : Bool} (h : zb b = 0) : b = false := by cases b with | false => rfl | true => exact absurd h (by decide)
theorem zb_ne {b : Bool} (h : ¬ zb b = 0) : b = true := by cases b with | true => rfl | false => exact absurd rfl h
theorem zb_1 {b : Bool} (h : b = true) : (1 : Int32) = zb b := by rw [h]; rfl
theorem zb_0 {b : Bool} (h : b = false) : (0 : Int32) = zb b := by rw [h]; rfl
/-- the first hit from j on, f places looked at; -1 without one -/
def zf_find (hit : Nat → Bool) : Nat → Nat → Int32
  | 0, _ => -1
  | f + 1, j => if hit j = true then nI j else zf_find hit f (j + 1)
theorem zf_hit {hit : Nat → Bool} {n i : Nat} (h : i < n) (hh : hit i = true) : zf_find hit (n - i) i = nI i := by
  rw [show n - i = (n - (i + 1)) + 1 by omega, zf_find, if_pos hh]
theorem zf_miss {hit : Nat → Bool} {n i : Nat} (h : i < n) (hh : hit i = false) : zf_find hit (n - i) i = zf_find hit (n - (i + 1)) (i + 1) := by
  rw [show n - i = (n - (i + 1)) + 1 by omega, zf_find, if_neg (by rw [hh]; decide)]
theorem zf_end {hit : Nat → Bool} {n i : Nat} (h : n ≤ i) : zf_find hit (n - i) i = -1 := by
  rw [show n - i = 0 by omega, zf_find]
/-- how many of the first n -/
def zf_cnt (p : Nat → Bool) : Nat → Nat
  | 0 => 0
  | n + 1 => if p n = true then zf_cnt p n + 1 else zf_cnt p n
theorem zf_cnt_le (p : Nat → Bool) : ∀ n, zf_cnt p n ≤ n
  | 0 => Nat.le_refl 0
  | n + 1 => by
    have h := zf_cnt_le p n
    rw [zf_cnt]
    split <;> omega
theorem zf_cnt_t {p : Nat → Bool} {n : Nat} (h : p n = true) : zf_cnt p (n + 1) = zf_cnt p n + 1 := by rw [zf_cnt, if_pos h]
theorem zf_cnt_f {p : Nat → Bool} {n : Nat} (h : p n = false) : zf_cnt p (n + 1) = zf_cnt p n := by rw [zf_cnt, if_neg (by rw [h]; decide)]
-- alarms
def al_ah (be : Nat → Int32) (o k : Nat) : Bool := decide (be o < be k) || (decide (be o = be k) && decide (o < k))
def al_p (be : Nat → Int32) (k o : Nat) : Bool := decide (¬ be o = 0) && al_ah be o k
def al_hit (be : Nat → Int32) (pl : Int32) (k : Nat) : Bool := decide (¬ be k = 0) && decide (nI (zf_cnt (al_p be k) 60) = pl)
-- lamps
def la_gt (x y : UInt64) : Bool := decide (¬ Op.cmpValue (FP.dcmp x y) CmpOp.l ≤ 0)
def la_lt (x y : UInt64) : Bool := decide (¬ 0 ≤ Op.cmpValue (FP.dcmp x y) CmpOp.g)
def la_ge9 (x : UInt64) : Bool := decide (¬ Op.cmpValue (FP.dcmp x 4621256167635550208) CmpOp.l < 0)
def la_rd (pl : Nat → Int32) (ch : Nat → UInt64) (j : Nat) : Bool := decide (pl j = 0) && la_ge9 (ch j)
def la_is (ki pl : Nat → Int32) (ch : Nat → UInt64) (k : Int32) (j : Nat) : Bool := decide (ki j = k) && la_rd pl ch j
def la_full (ki pl : Nat → Int32) (ch : Nat → UInt64) (k : Int32) : Nat → Int32
  | 0 => -1
  | j + 1 => if la_is ki pl ch k j = true ∧ (la_full ki pl ch k j = -1 ∨ la_gt (ch j) (ch (la_full ki pl ch k j).toNatClampNeg) = true) then nI j else la_full ki pl ch k j
theorem la_full_or (ki pl : Nat → Int32) (ch : Nat → UInt64) (k : Int32) : ∀ i, la_full ki pl ch k i = -1 ∨ ∃ b, b < i ∧ la_full ki pl ch k i = nI b
  | 0 => Or.inl rfl
  | i + 1 => by
    rw [la_full]
    split
    · exact Or.inr ⟨i, by omega, rfl⟩
    · rcases la_full_or ki pl ch k i with h | ⟨b, h1, h2⟩
      · exact Or.inl h
      · exact Or.inr ⟨b, by omega, h2⟩
def la_best (ki pl : Nat → Int32) (ch : Nat → UInt64) (n : Nat) : Nat → Nat → Int32
  | 0, _ => -1
  | f + 1, k => if la_full ki pl ch (nI k) n = -1 then la_best ki pl ch n f (k + 1) else la_full ki pl ch (nI k) n
def la_new (k : Int32) : UInt64 := if k = 0 then 4622945017495814144 else if k = 1 then 4625196817309499392 else 4626322717216342016
def la_weak (ki : Nat → Int32) (ca : Nat → UInt64) (j : Nat) : Bool := la_lt (ca j) (FP.dmul 4604930618986332160 (la_new (ki j)))
def la_fault (le ki : Nat → Int32) (ca : Nat → UInt64) (j : Nat) : Int32 := if le j = 0 then (if la_weak ki ca j = true then 2 else 0) else 1
def la_rem (t : Int32) : Int32 := t - t / 7 * 7
def la_loss (z : Int32) : UInt64 := if z = 0 then 4607182418800017408 else 4609434218613702656
def la_b1 (x : UInt64) (z : Int32) : UInt64 := if la_gt x (la_loss z) = true then FP.dsub x (la_loss z) else 0
def la_burn (pl le : Nat → Int32) (ch : Nat → UInt64) : Nat → Nat → UInt64
  | 0 => ch
  | j + 1 => if pl j = 1 then vf_upd (la_burn pl le ch j) j (la_b1 (la_burn pl le ch j j) (le j)) else la_burn pl le ch j
def la_l1 (x y : UInt64) : UInt64 := if la_lt (FP.dadd x 4612811918334230528) y = true then FP.dadd x 4612811918334230528 else y
def la_ldo (pl : Nat → Int32) (ca : Nat → UInt64) (f : Nat → UInt64) (u j : Nat) : Bool := decide (u < 5) && (decide (pl j = 0) && la_lt (f j) (ca j))
def la_lo (pl : Nat → Int32) (ch ca : Nat → UInt64) : Nat → (Nat → UInt64) × Nat
  | 0 => (ch, 0)
  | j + 1 => if la_ldo pl ca (la_lo pl ch ca j).1 (la_lo pl ch ca j).2 j = true then (vf_upd (la_lo pl ch ca j).1 j (la_l1 ((la_lo pl ch ca j).1 j) (ca j)), (la_lo pl ch ca j).2 + 1) else la_lo pl ch ca j
theorem la_lo_le (pl : Nat → Int32) (ch ca : Nat → UInt64) : ∀ j, (la_lo pl ch ca j).2 ≤ 5
  | 0 => by rw [la_lo]; exact Nat.zero_le _
  | j + 1 => by
    have h := la_lo_le pl ch ca j
    rw [la_lo]
    split
    · rename_i h1
      have h2 : (la_lo pl ch ca j).2 < 5 := by
        simp only [la_ldo, Bool.and_eq_true, decide_eq_true_eq] at h1
        exact h1.1
      show (la_lo pl ch ca j).2 + 1 ≤ 5
      omega
    · exact h
theorem la_lo_stop {pl : Nat → Int32} {ch ca : Nat → UInt64} {i : Nat} (h : (la_lo pl ch ca i).2 = 5) : ∀ n, la_lo pl ch ca (i + n) = la_lo pl ch ca i
  | 0 => rfl
  | n + 1 => by
    have e := la_lo_stop h n
    rw [show i + (n + 1) = (i + n) + 1 by omega, la_lo, e, if_neg]
    simp [la_ldo, h]
theorem la_lo_t {pl : Nat → Int32} {ch ca : Nat → UInt64} {j : Nat} (h : la_ldo pl ca (la_lo pl ch ca j).1 (la_lo pl ch ca j).2 j = true) : la_lo pl ch ca (j + 1) = (vf_upd (la_lo pl ch ca j).1 j (la_l1 ((la_lo pl ch ca j).1 j) (ca j)), (la_lo pl ch ca j).2 + 1) := by rw [la_lo, if_pos h]
theorem la_lo_f {pl : Nat → Int32} {ch ca : Nat → UInt64} {j : Nat} (h : la_ldo pl ca (la_lo pl ch ca j).1 (la_lo pl ch ca j).2 j = false) : la_lo pl ch ca (j + 1) = la_lo pl ch ca j := by rw [la_lo, if_neg (by rw [h]; decide)]
/-- the sum over those on the rack -/
def la_sum (pl : Nat → Int32) (f : Nat → UInt64) : Nat → UInt64
  | 0 => 0
  | j + 1 => if pl j = 0 then FP.dadd (la_sum pl f j) (f j) else la_sum pl f j
-- tallies
def ta_p (th : Nat → Int32) (j : Nat) : Bool := decide (¬ th j = -1)
def ta_ah (th od : Nat → Int32) (m o : Nat) : Bool := decide (¬ th o = -1) && decide (od o < od m)
def ta_hit (th od : Nat → Int32) (n : Nat) (pl : Int32) (m : Nat) : Bool := decide (¬ th m = -1) && decide (nI (zf_cnt (ta_ah th od m) n) = pl)
end
section
-- doubles: the value in units of the least one, comparisons, sums and differences
abbrev fz (x : UInt64) : Int := FP.Core.zval FP.Core.b64 (FP.Core.val64 x)
abbrev fz_n (x : UInt64) : Prop := FP.Core.val64 x ≠ FP.Core.Datum.nan
theorem fz_ne {x : UInt64} (h : x.toNat ≤ 9218868437227405312) : fz_n x := by
  show FP.Core.val64 x ≠ FP.Core.Datum.nan
  rw [FP.Core.ne_nan, Nat.mod_eq_of_lt (by omega)]
  exact h
theorem fz_units {x : UInt64} (h : x.toNat ≤ 9218868437227405312) : fz x = (FP.Core.unitsOf FP.Core.b64 x.toNat : Int) := by
  have h1 := FP.Core.zval_decode FP.Core.good_b64 (FP.Core.lt_full64 x) (fz_ne h)
  show FP.Core.zval FP.Core.b64 (FP.Core.decode FP.Core.b64 x.toNat) = _
  rw [h1, FP.Core.mag_toNat64, Nat.mod_eq_of_lt (by omega), FP.Core.half_b64, decide_eq_false (by omega)]
  rfl
theorem fz_le_bits {x y : UInt64} (hx : x.toNat ≤ 9218868437227405312) (hy : y.toNat ≤ 9218868437227405312) : fz x ≤ fz y ↔ x.toNat ≤ y.toNat := by
  rw [fz_units hx, fz_units hy, Int.ofNat_le]
  exact FP.Core.unitsOf_le_iff
theorem fz_lt_bits {x y : UInt64} (hx : x.toNat ≤ 9218868437227405312) (hy : y.toNat ≤ 9218868437227405312) : fz x < fz y ↔ x.toNat < y.toNat := by
  rw [fz_units hx, fz_units hy, Int.ofNat_lt]
  exact FP.Core.unitsOf_lt_iff
theorem fz_cmp3 {x y : UInt64} (hx : fz_n x) (hy : fz_n y) : (fz x < fz y ∧ FP.dcmp x y = some Ordering.lt) ∨ (fz x = fz y ∧ FP.dcmp x y = some Ordering.eq) ∨ (fz y < fz x ∧ FP.dcmp x y = some Ordering.gt) := by
  have e : FP.dcmp x y = some (compare (fz x) (fz y)) := FP.Core.order_zval FP.Core.good_b64 (FP.Core.val64_fits x) (FP.Core.val64_fits y) hx hy
  rw [e]
  generalize fz x = a
  generalize fz y = b
  rcases Int.lt_trichotomy a b with h | h | h
  · exact Or.inl ⟨h, by simp only [compare, compareOfLessAndEq, if_pos h]⟩
  · exact Or.inr (Or.inl ⟨h, by subst h; simp [compare, compareOfLessAndEq]⟩)
  · have h1 : ¬ a < b := by omega
    have h2 : ¬ a = b := by omega
    exact Or.inr (Or.inr ⟨h, by simp only [compare, compareOfLessAndEq, if_neg h1, if_neg h2]⟩)
theorem fz_gt {x y : UInt64} (hx : fz_n x) (hy : fz_n y) : la_gt x y = true ↔ fz y < fz x := by
  unfold la_gt
  rcases fz_cmp3 hx hy with ⟨h, e⟩ | ⟨h, e⟩ | ⟨h, e⟩
  · rw [e]; exact iff_of_false (by decide +kernel) (by omega)
  · rw [e]; exact iff_of_false (by decide +kernel) (by omega)
  · rw [e]; exact iff_of_true (by decide +kernel) h
theorem fz_lt {x y : UInt64} (hx : fz_n x) (hy : fz_n y) : la_lt x y = true ↔ fz x < fz y := by
  unfold la_lt
  rcases fz_cmp3 hx hy with ⟨h, e⟩ | ⟨h, e⟩ | ⟨h, e⟩
  · rw [e]; exact iff_of_true (by decide +kernel) h
  · rw [e]; exact iff_of_false (by decide +kernel) (by omega)
  · rw [e]; exact iff_of_false (by decide +kernel) (by omega)
/-- a number from +0.0 to 20.0 -/
def zn_p (x : UInt64) : Prop := x.toNat ≤ 4626322717216342016
theorem zn_le {x : UInt64} (h : zn_p x) : x.toNat ≤ 9218868437227405312 := Nat.le_trans h (by decide)
theorem zn_fin {x : UInt64} (h : zn_p x) : FP.Core.DFin x := by
  rw [FP.Core.fin_bits, Nat.mod_eq_of_lt (by unfold zn_p at h; omega)]
  unfold zn_p at h
  omega
theorem zn_of_ne {x : UInt64} (h : fz_n x) : vf_n64 x := by
  have h1 := (FP.Core.ne_nan x).mp h
  unfold vf_n64
  rw [UInt64.le_iff_toNat_le, UInt64.toNat_and]
  show x.toNat &&& (2 ^ 63 - 1) ≤ 9218868437227405312
  rw [Nat.and_two_pow_sub_one_eq_mod]
  exact h1
theorem zn_n64 {x : UInt64} (h : zn_p x) : vf_n64 x := zn_of_ne (fz_ne (zn_le h))
theorem zn_loss (z : Int32) : zn_p (la_loss z) := by
  unfold la_loss zn_p
  split <;> decide +kernel
theorem zn_new (k : Int32) : zn_p (la_new k) := by
  unfold la_new zn_p
  split
  · decide +kernel
  · split <;> decide +kernel
theorem zn_w75 (k : Int32) : vf_n64 (FP.dmul 4604930618986332160 (la_new k)) := by
  unfold la_new vf_n64
  split
  · decide +kernel
  · split <;> decide +kernel
theorem fz_sub {x v : UInt64} (hx : FP.Core.DFin x) (hv : FP.Core.DFin v) : ∃ (sg : Bool) (n : Nat) (e : Int), FP.Core.val64 (FP.dsub x v) = FP.Core.round FP.Core.b64 (.fin sg n e) ∧ FP.Core.b64.qmin ≤ e ∧ FP.Core.signed sg (FP.Core.inUnits n e FP.Core.b64.qmin) = fz x - fz v := by
  obtain ⟨s, c, q, ex⟩ := hx
  obtain ⟨t, d, r, ev⟩ := hv
  have f1 : FP.Core.fits FP.Core.b64 (.fin s c q) := by rw [← ex]; exact FP.Core.val64_fits x
  have f2 : FP.Core.fits FP.Core.b64 (.fin (!t) d r) := by
    have h := FP.Core.negate_fits (FP.Core.val64_fits v)
    rw [ev] at h
    exact h
  obtain ⟨sg, n, e, h1, h2, h3⟩ := FP.Core.sum_units f1 f2
  refine ⟨sg, n, e, ?_, h2, ?_⟩
  · have h := FP.Core.val64_dsub x v
    rw [ex, ev] at h
    rw [← h1]
    exact h
  · have h4 : FP.Core.zval FP.Core.b64 (.fin (!t) d r) = - fz v := by
      have h5 := FP.Core.zval_negate FP.Core.b64 (FP.Core.val64 v)
      rw [ev] at h5
      show FP.Core.zval FP.Core.b64 (FP.Core.negate (.fin t d r)) = - FP.Core.zval FP.Core.b64 (FP.Core.val64 v)
      rw [ev]
      exact h5
    rw [h3, h4]
    show FP.Core.zval FP.Core.b64 (.fin s c q) + _ = FP.Core.zval FP.Core.b64 (FP.Core.val64 x) - _
    rw [ex]
    omega
theorem fz_add {x v : UInt64} (hx : FP.Core.DFin x) (hv : FP.Core.DFin v) : ∃ (sg : Bool) (n : Nat) (e : Int), FP.Core.val64 (FP.dadd x v) = FP.Core.round FP.Core.b64 (.fin sg n e) ∧ FP.Core.b64.qmin ≤ e ∧ FP.Core.signed sg (FP.Core.inUnits n e FP.Core.b64.qmin) = fz x + fz v := by
  obtain ⟨s, c, q, ex⟩ := hx
  obtain ⟨t, d, r, ev⟩ := hv
  have f1 : FP.Core.fits FP.Core.b64 (.fin s c q) := by rw [← ex]; exact FP.Core.val64_fits x
  have f2 : FP.Core.fits FP.Core.b64 (.fin t d r) := by rw [← ev]; exact FP.Core.val64_fits v
  obtain ⟨sg, n, e, h1, h2, h3⟩ := FP.Core.sum_units f1 f2
  refine ⟨sg, n, e, ?_, h2, ?_⟩
  · have h := FP.Core.val64_dadd x v
    rw [ex, ev] at h
    rw [← h1]
    exact h
  · rw [h3]
    show _ = FP.Core.zval FP.Core.b64 (FP.Core.val64 x) + FP.Core.zval FP.Core.b64 (FP.Core.val64 v)
    rw [ex, ev]
theorem fz_rn {r : UInt64} {sg : Bool} {n : Nat} {e : Int} (h : FP.Core.val64 r = FP.Core.round FP.Core.b64 (.fin sg n e)) : fz_n r := by
  intro h1
  rw [h] at h1
  have h2 := FP.Core.round_nan.mp h1
  cases h2
theorem fz_r_le {r y : UInt64} {sg : Bool} {n : Nat} {e : Int} (h : FP.Core.val64 r = FP.Core.round FP.Core.b64 (.fin sg n e)) (he : FP.Core.b64.qmin ≤ e) (hy : fz_n y) (hv : FP.Core.signed sg (FP.Core.inUnits n e FP.Core.b64.qmin) ≤ fz y) : fz r ≤ fz y := by
  show FP.Core.zval FP.Core.b64 (FP.Core.val64 r) ≤ _
  rw [h]
  refine FP.Core.zval_round_le FP.Core.good_b64 (FP.Core.val64_fits y) hy (Int.le_refl _) he ?_
  rw [Int.sub_self]
  show _ ≤ _ * ((2 ^ 0 : Nat) : Int)
  rw [Nat.pow_zero, Int.natCast_one, Int.mul_one]
  exact hv
theorem fz_r_ge {r y : UInt64} {sg : Bool} {n : Nat} {e : Int} (h : FP.Core.val64 r = FP.Core.round FP.Core.b64 (.fin sg n e)) (he : FP.Core.b64.qmin ≤ e) (hy : fz_n y) (hv : fz y ≤ FP.Core.signed sg (FP.Core.inUnits n e FP.Core.b64.qmin)) : fz y ≤ fz r := by
  show _ ≤ FP.Core.zval FP.Core.b64 (FP.Core.val64 r)
  rw [h]
  refine FP.Core.zval_round_ge FP.Core.good_b64 (FP.Core.val64_fits y) hy (Int.le_refl _) he ?_
  rw [Int.sub_self]
  show _ * ((2 ^ 0 : Nat) : Int) ≤ _
  rw [Nat.pow_zero, Int.natCast_one, Int.mul_one]
  exact hv
theorem fz_pos_bits {r : UInt64} (hn : fz_n r) (h : 0 < fz r) : r.toNat ≤ 9218868437227405312 := by
  have h1 := FP.Core.zval_decode FP.Core.good_b64 (FP.Core.lt_full64 r) hn
  have h2 := (FP.Core.ne_nan r).mp hn
  have h3 : fz r = FP.Core.signed (decide (FP.Core.half FP.Core.b64 ≤ r.toNat)) (FP.Core.unitsOf FP.Core.b64 (FP.Core.mag FP.Core.b64 r.toNat)) := h1
  by_cases h4 : FP.Core.half FP.Core.b64 ≤ r.toNat
  · rw [decide_eq_true h4] at h3
    have h5 : fz r = -((FP.Core.unitsOf FP.Core.b64 (FP.Core.mag FP.Core.b64 r.toNat) : Nat) : Int) := h3
    omega
  · rw [FP.Core.half_b64] at h4
    rw [Nat.mod_eq_of_lt (by omega)] at h2
    exact h2
theorem fz_sgn_bits {r : UInt64} (hn : fz_n r) (h : FP.Core.sgn (FP.Core.val64 r) = false) : r.toNat ≤ 9218868437227405312 := by
  have h1 := FP.Core.sgn_bits hn
  rw [h] at h1
  have h2 := (FP.Core.ne_nan r).mp hn
  have h3 : ¬ 2 ^ 63 ≤ r.toNat := of_decide_eq_false h1.symm
  rw [Nat.mod_eq_of_lt (by omega)] at h2
  exact h2
theorem fz_0 : fz 0 = 0 := by
  rw [fz_units (by decide)]
  decide +kernel
theorem fz_1 : fz 1 = 1 := by
  rw [fz_units (by decide)]
  decide +kernel
theorem zn_subn {x v : UInt64} (h : zn_p x) (hv : zn_p v) : fz_n (FP.dsub x v) := by
  obtain ⟨sg, n, e, h1, -, -⟩ := fz_sub (zn_fin h) (zn_fin hv)
  exact fz_rn h1
theorem zn_sub_gt {x v : UInt64} (h : zn_p x) (hv : zn_p v) (hg : fz v < fz x) : zn_p (FP.dsub x v) ∧ 0 < fz (FP.dsub x v) := by
  obtain ⟨sg, n, e, h1, h2, h3⟩ := fz_sub (zn_fin h) (zn_fin hv)
  have hn := fz_rn h1
  have v0 : 0 ≤ fz v := by rw [fz_units (zn_le hv)]; exact Int.natCast_nonneg _
  have g1 : fz 1 ≤ fz (FP.dsub x v) := fz_r_ge h1 h2 (fz_ne (by decide)) (by rw [h3, fz_1]; omega)
  rw [fz_1] at g1
  have g2 : fz (FP.dsub x v) ≤ fz x := fz_r_le h1 h2 (fz_ne (zn_le h)) (by rw [h3]; omega)
  have g3 := fz_pos_bits hn (by omega)
  exact ⟨Nat.le_trans ((fz_le_bits g3 (zn_le h)).mp g2) h, by omega⟩
theorem zn_sub_le {x v : UInt64} (h : zn_p x) (hv : zn_p v) (hg : fz x ≤ fz v) : fz (FP.dsub x v) ≤ 0 := by
  obtain ⟨sg, n, e, h1, h2, h3⟩ := fz_sub (zn_fin h) (zn_fin hv)
  have g := fz_r_le (y := 0) h1 h2 (fz_ne (by decide)) (by rw [h3, fz_0]; omega)
  rw [fz_0] at g
  exact g
theorem zn_mul97 {x : UInt64} (h : zn_p x) : zn_p (FP.dmul x 4606912202822375178) := by
  obtain ⟨s, c, q, ex⟩ := zn_fin h
  obtain ⟨t, d, r, ev⟩ : FP.Core.DFin 4606912202822375178 := by rw [FP.Core.fin_bits]; decide
  have f1 : FP.Core.fits FP.Core.b64 (.fin s c q) := by rw [← ex]; exact FP.Core.val64_fits x
  have f2 : FP.Core.fits FP.Core.b64 (.fin t d r) := by rw [← ev]; exact FP.Core.val64_fits _
  obtain ⟨h1, h2, h3⟩ := FP.Core.product_units f1 f2
  have hx0 := zn_le h
  have s1 : s = false := by
    have g := FP.Core.sgn_bits (fz_ne hx0)
    rw [ex, decide_eq_false (by omega)] at g
    exact g
  have t1 : t = false := by
    have g := FP.Core.sgn_bits (a := 4606912202822375178) (fz_ne (by decide))
    rw [ev, decide_eq_false (by decide)] at g
    exact g
  subst s1
  subst t1
  have hr : FP.Core.val64 (FP.dmul x 4606912202822375178) = FP.Core.round FP.Core.b64 (.fin (false != false) (c * d) (q + r)) := by
    have g := FP.Core.val64_dmul x 4606912202822375178
    rw [ex, ev, h1] at g
    exact g
  have hn := fz_rn hr
  have hs : FP.Core.sgn (FP.Core.val64 (FP.dmul x 4606912202822375178)) = false := by
    rw [hr]
    exact FP.Core.sgn_roundRatio _ _ _ _ _
  have g3 := fz_sgn_bits hn hs
  have hd : FP.Core.zmag FP.Core.b64 (.fin false d r) ≤ 2 ^ 1074 := by
    rw [← ev, FP.Core.zmag_bits (fz_ne (by decide))]
    decide +kernel
  have g2 : fz (FP.dmul x 4606912202822375178) ≤ fz x := by
    show FP.Core.zval FP.Core.b64 (FP.Core.val64 (FP.dmul x 4606912202822375178)) ≤ _
    rw [hr]
    refine FP.Core.zval_round_le FP.Core.good_b64 (e0 := 2 * FP.Core.b64.qmin) (FP.Core.val64_fits x) (fz_ne hx0) (by rw [FP.Core.qmin_b64]; decide) h2 ?_
    have e1 : FP.Core.signed (false != false) (FP.Core.inUnits (c * d) (q + r) (2 * FP.Core.b64.qmin)) = ((FP.Core.zmag FP.Core.b64 (.fin false c q) * FP.Core.zmag FP.Core.b64 (.fin false d r) : Nat) : Int) := by
      rw [h3]
      rfl
    have e2 : FP.Core.zval FP.Core.b64 (FP.Core.val64 x) = ((FP.Core.zmag FP.Core.b64 (.fin false c q) : Nat) : Int) := by
      rw [ex]
      rfl
    rw [e1, e2, show (FP.Core.b64.qmin - 2 * FP.Core.b64.qmin).toNat = 1074 by rw [FP.Core.qmin_b64]; decide, ← Int.natCast_mul, Int.ofNat_le]
    exact Nat.mul_le_mul_left _ hd
  exact Nat.le_trans ((fz_le_bits g3 hx0).mp g2) h
/-- a number without sign, below the start of a block of exponents -/
def zn_K (K : Nat) (x : UInt64) : Prop := x.toNat < K * 2 ^ 52
theorem zn_K_of {x : UInt64} (h : zn_p x) : zn_K 1028 x := Nat.lt_of_le_of_lt h (by decide)
theorem zn_K_mono {K L : Nat} {x : UInt64} (h : zn_K K x) (hl : K ≤ L) : zn_K L x := Nat.lt_of_lt_of_le h (Nat.mul_le_mul_right _ hl)
theorem zn_K_le {K : Nat} {x : UInt64} (h : zn_K K x) (hK : K ≤ 2047) : x.toNat < 9218868437227405312 := Nat.lt_of_lt_of_le h (Nat.le_trans (Nat.mul_le_mul_right _ hK) (by decide))
theorem zn_K_fin {K : Nat} {x : UInt64} (h : zn_K K x) (hK : K ≤ 2047) : FP.Core.DFin x := by
  have h1 := zn_K_le h hK
  rw [FP.Core.fin_bits, Nat.mod_eq_of_lt (by omega)]
  exact h1
theorem zn_addK {K : Nat} {x y : UInt64} (h : zn_K K x) (hy : zn_K K y) (hK : K ≤ 2040) : zn_K (K + 2) (FP.dadd x y) ∧ fz_n (FP.dadd x y) := by
  have hx1 := zn_K_le h (by omega)
  have hy1 := zn_K_le hy (by omega)
  obtain ⟨sg, n, e, h1, h2, h3⟩ := fz_add (zn_K_fin h (by omega)) (zn_K_fin hy (by omega))
  have hn := fz_rn h1
  have m := FP.Core.dadd_mag (a := x) (b := y) (K := K) (by rw [Nat.mod_eq_of_lt (by omega)]; exact h) (by rw [Nat.mod_eq_of_lt (by omega)]; exact hy) (by omega)
  have x0 : 0 ≤ fz x := by rw [fz_units (by omega)]; exact Int.natCast_nonneg _
  have y0 : 0 ≤ fz y := by rw [fz_units (by omega)]; exact Int.natCast_nonneg _
  have hs : FP.Core.sgn (FP.Core.val64 (FP.dadd x y)) = false := by
    obtain ⟨s, c, q, ex⟩ := zn_K_fin h (by omega)
    obtain ⟨t, d, r, ev⟩ := zn_K_fin hy (by omega)
    have s1 : s = false := by
      have g := FP.Core.sgn_bits (fz_ne (Nat.le_of_lt hx1))
      rw [ex, decide_eq_false (by omega)] at g
      exact g
    have t1 : t = false := by
      have g := FP.Core.sgn_bits (fz_ne (Nat.le_of_lt hy1))
      rw [ev, decide_eq_false (by omega)] at g
      exact g
    subst s1
    subst t1
    have g := FP.Core.val64_dadd x y
    rw [ex, ev] at g
    have g1 : FP.Core.val64 (FP.dadd x y) = FP.Core.roundRatio FP.Core.b64 (FP.Core.sumSign false false (FP.Core.sumUnits false c q false d r (min q r))) (FP.Core.sumUnits false c q false d r (min q r)).natAbs 1 (min q r) := g
    rw [g1, FP.Core.sgn_roundRatio]
    unfold FP.Core.sumSign
    split
    · rfl
    · refine decide_eq_false ?_
      unfold FP.Core.sumUnits
      show ¬ ((FP.Core.inUnits c q (min q r) : Nat) : Int) + ((FP.Core.inUnits d r (min q r) : Nat) : Int) < 0
      omega
  have g3 := fz_sgn_bits hn hs
  refine ⟨?_, hn⟩
  have m2 : (FP.dadd x y).toNat % 2 ^ 63 < (K + 2) * 2 ^ 52 := m
  rw [Nat.mod_eq_of_lt (by omega)] at m2
  exact m2
theorem zn_add25 {x : UInt64} (h : zn_p x) : fz_n (FP.dadd x 4612811918334230528) ∧ (FP.dadd x 4612811918334230528).toNat ≤ 9218868437227405312 := by
  obtain ⟨h1, h2⟩ := zn_addK (K := 1028) (zn_K_of h) (zn_K_of (x := 4612811918334230528) (by unfold zn_p; decide)) (by decide)
  exact ⟨h2, Nat.le_of_lt (zn_K_le h1 (by decide))⟩
theorem zn_add0 {x : UInt64} (h : x.toNat ≤ 9218868437227405312) : FP.dadd x 0 = x := by
  refine FP.Core.dadd_zero (fz_ne h) (fun e => ?_)
  rw [e] at h
  exact absurd h (by decide)
theorem zn_up {f : Nat → UInt64} {k : Nat} {x : UInt64} {j : Nat} (hx : zn_p x) (h : zn_p (f j)) : zn_p (vf_upd f k x j) := by
  unfold vf_upd
  split
  · exact hx
  · exact h
theorem zn_0 : zn_p 0 := by unfold zn_p; decide
theorem zn_b1 {x : UInt64} (z : Int32) (h : zn_p x) : zn_p (la_b1 x z) := by
  unfold la_b1
  split
  · rename_i g
    exact (zn_sub_gt h (zn_loss z) ((fz_gt (fz_ne (zn_le h)) (fz_ne (zn_le (zn_loss z)))).mp g)).1
  · exact zn_0
theorem zn_sub_v {x v : UInt64} {z : Int32} (hv : la_loss z = v) (h : zn_p x) : vf_n64 (FP.dsub x v) := by
  subst hv
  exact zn_of_ne (zn_subn h (zn_loss z))
/-- what is left, told the other way -/
theorem zn_b1_m {x : UInt64} (z : Int32) (h : zn_p x) : la_b1 x z = if la_gt (FP.dsub x (la_loss z)) 0 = true then FP.dsub x (la_loss z) else 0 := by
  have hl := zn_loss z
  have n1 := fz_ne (zn_le h)
  have n2 := fz_ne (zn_le hl)
  have n3 := zn_subn h hl
  have n4 : fz_n 0 := fz_ne (by decide)
  unfold la_b1
  by_cases g : la_gt x (la_loss z) = true
  · have g1 := (zn_sub_gt h hl ((fz_gt n1 n2).mp g)).2
    rw [if_pos g, if_pos ((fz_gt n3 n4).mpr (by rw [fz_0]; exact g1))]
  · have g1 : fz x ≤ fz (la_loss z) := Int.not_lt.mp (fun q => g ((fz_gt n1 n2).mpr q))
    have g2 := zn_sub_le h hl g1
    rw [if_neg g, if_neg (fun q => by have g3 := (fz_gt n3 n4).mp q; rw [fz_0] at g3; omega)]
theorem zn_burn {pl le : Nat → Int32} {ch : Nat → UInt64} {n : Nat} (h : ∀ i, i < n → zn_p (ch i)) : ∀ j i, i < n → zn_p (la_burn pl le ch j i)
  | 0, i, hi => h i hi
  | j + 1, i, hi => by
    rw [la_burn]
    split
    · unfold vf_upd
      split
      · rename_i _ e
        subst e
        exact zn_b1 _ (zn_burn h i i hi)
      · exact zn_burn h j i hi
    · exact zn_burn h j i hi
theorem zn_l1 {x y : UInt64} (h : zn_p x) (hy : zn_p y) : zn_p (la_l1 x y) := by
  unfold la_l1
  split
  · rename_i g
    obtain ⟨g1, g2⟩ := zn_add25 h
    have g3 := (fz_lt g1 (fz_ne (zn_le hy))).mp g
    exact Nat.le_trans (Nat.le_of_lt ((fz_lt_bits g2 (zn_le hy)).mp g3)) hy
  · exact hy
theorem zn_lo {pl : Nat → Int32} {ch ca : Nat → UInt64} {n : Nat} (h : ∀ i, i < n → zn_p (ch i)) (hc : ∀ i, i < n → zn_p (ca i)) : ∀ j i, i < n → zn_p ((la_lo pl ch ca j).1 i)
  | 0, i, hi => h i hi
  | j + 1, i, hi => by
    rw [la_lo]
    split
    · show zn_p (vf_upd (la_lo pl ch ca j).1 j (la_l1 ((la_lo pl ch ca j).1 j) (ca j)) i)
      unfold vf_upd
      split
      · rename_i _ e
        subst e
        exact zn_l1 (zn_lo h hc i i hi) (hc i hi)
      · exact zn_lo h hc j i hi
    · exact zn_lo h hc j i hi
theorem zn_sum {pl : Nat → Int32} {f : Nat → UInt64} {n : Nat} (h : ∀ i, i < n → zn_p (f i)) (hn : n ≤ 40) : ∀ j, j ≤ n → zn_K (1028 + 2 * j) (la_sum pl f j)
  | 0, _ => by rw [la_sum]; exact zn_K_of zn_0
  | j + 1, hj => by
    have ih := zn_sum (pl := pl) h hn j (by omega)
    rw [la_sum]
    split
    · exact (zn_addK ih (zn_K_mono (zn_K_of (h j (by omega))) (by omega)) (by omega)).1
    · exact zn_K_mono ih (by omega)
theorem zn_sum_n {pl : Nat → Int32} {f : Nat → UInt64} {n : Nat} (h : ∀ i, i < n → zn_p (f i)) (hn : n ≤ 40) {j : Nat} (hj : j < n) : vf_n64 (FP.dadd (la_sum pl f j) (f j)) :=
  zn_of_ne (zn_addK (K := 1028 + 2 * j) (zn_sum h hn j (by omega)) (zn_K_mono (zn_K_of (h j hj)) (by omega)) (by omega)).2
end
section
theorem zq_add0 (x : Int32) : x + 0 = x := Int32.add_zero x
theorem zq_vus {f : Nat → UInt64} {k : Nat} {x : UInt64} : vf_upd f k x k = x := by unfold vf_upd; rw [if_pos rfl]
theorem zq_le0 {a : Nat} (h : nI a ≤ 0) (ha : a < 2 ^ 31) : a = 0 := by
  have h1 : nI a ≤ nI 0 := h
  have h2 := (nI_leI ha (by decide)).mp h1
  omega
theorem zq_nle0 {a : Nat} (h : ¬ nI a ≤ 0) (ha : a < 2 ^ 31) : 0 < a := by
  rcases Nat.eq_zero_or_pos a with e | e
  · subst e
    exact absurd (show nI 0 ≤ 0 by decide +kernel) h
  · exact e
theorem zq_dec5 {u : Nat} (hu : u < 5) : nI (5 - u) + Int32.ofInt (-1) = nI (5 - (u + 1)) := by
  rw [show Int32.ofInt (-1) = (-1 : Int32) from rfl, sb_m1 (by omega), Nat.sub_sub]
theorem zb_nar (b : Bool) : narrow .boolean (.int (zb b)) = .int (zb b) := by cases b <;> rfl
theorem zq_nI1 : nI 1 = 1 := rfl
section ZD
variable {p : Program} {l : Launch} {e : Env} {R : Room} {s : State} {m : MethodId} {args : Array Value} {below : List Frame} {meth : Method} {c : Code} {H : Heap} {locs : List Loc} {cells slots : Nat} {Q : State → Prop} {cc : ByteArray} {pc : Nat} {ls : Array Slot} {rest : List Value}
theorem zq_dconst0 (hexec : p.tables.exec = Jvm.exec) (hb : c.code = cc) (hdg : decode cc pc = .ok (.dconst 0, 1)) (k : W p l e R s m args below meth c H locs cells slots Q (F0 m (pc + 1) ls (.double 0 :: rest))) : W p l e R s m args below meth c H locs cells slots Q (F0 m pc ls rest) := lv_dconst0 hexec hb hdg k
theorem zq_dconst1 (hexec : p.tables.exec = Jvm.exec) (hb : c.code = cc) (hdg : decode cc pc = .ok (.dconst 1, 1)) (k : W p l e R s m args below meth c H locs cells slots Q (F0 m (pc + 1) ls (.double 4607182418800017408 :: rest))) : W p l e R s m args below meth c H locs cells slots Q (F0 m pc ls rest) := lv_dconst1 hexec hb hdg k
end ZD
end
section
-- own words for the reference's loops
def in_b (v lo hi : Int32) : Bool := decide (¬ v < lo) && decide (¬ hi < v)
theorem in_b_ok {j n : Nat} (h : j < n) (hn : n < 2 ^ 31) : in_b (nI j) 0 (nI n - 1) = true := by
  obtain ⟨k, rfl⟩ : ∃ k, n = k + 1 := ⟨n - 1, by omega⟩
  rw [nI_pred]
  unfold in_b
  rw [Bool.and_eq_true]
  exact ⟨decide_eq_true (nI_pos (by omega)), decide_eq_true (nI_nlt (by omega) (by omega))⟩
theorem in_b_of {v : Int32} {n : Nat} (hn : n < 2 ^ 31) (h : in_b v 0 (nI n - 1) = true) : ∃ j, j < n ∧ v = nI j := by
  unfold in_b at h
  rw [Bool.and_eq_true] at h
  have h1 := of_decide_eq_true h.1
  have h2 := of_decide_eq_true h.2
  obtain ⟨j, hj, rfl⟩ := nI_of h1
  rcases Nat.eq_zero_or_pos n with e | e
  · subst e
    have h3 : nI 0 - 1 < nI j := by
      have h4 : (nI 0 - 1) < 0 := by decide +kernel
      have h5 : (0 : Int32) ≤ nI j := nI_pos' hj
      exact Int32.lt_of_lt_of_le h4 h5
    exact absurd h3 h2
  · obtain ⟨k, rfl⟩ : ∃ k, n = k + 1 := ⟨n - 1, by omega⟩
    rw [nI_pred] at h2
    refine ⟨j, ?_, rfl⟩
    have h3 : ¬ k < j := fun q => h2 ((nI_ltI (by omega) hj).mpr q)
    omega
theorem in_b_3 {v : Int32} (h : in_b v 0 2 = true) : ∃ j, j < 3 ∧ v = nI j := in_b_of (n := 3) (by decide) h
theorem nI_nm1 {j : Nat} (h : j < 2 ^ 31) : ¬ nI j = -1 := fun e => by
  have h1 := nI_pos h
  rw [e] at h1
  exact absurd (show (-1 : Int32) < 0 by decide +kernel) h1
/-- the best, class by class, as the reference goes on -/
def la_scan (ki pl : Nat → Int32) (ch : Nat → UInt64) (n w : Nat) : Nat → Int32
  | 0 => -1
  | t + 1 => if la_scan ki pl ch n w t = -1 then la_full ki pl ch (nI (w + t)) n else la_scan ki pl ch n w t
theorem la_scan_stop {ki pl : Nat → Int32} {ch : Nat → UInt64} {n w t : Nat} (h : ¬ la_scan ki pl ch n w t = -1) : ∀ k, la_scan ki pl ch n w (t + k) = la_scan ki pl ch n w t
  | 0 => rfl
  | k + 1 => by
    rw [show t + (k + 1) = (t + k) + 1 by omega, la_scan, la_scan_stop h k, if_neg h]
theorem la_scan_best {ki pl : Nat → Int32} {ch : Nat → UInt64} {n w : Nat} : ∀ (f t : Nat), la_scan ki pl ch n w t = -1 → la_scan ki pl ch n w (t + f) = la_best ki pl ch n f (w + t)
  | 0, t, h => h
  | f + 1, t, h => by
    have e : la_scan ki pl ch n w (t + 1) = la_full ki pl ch (nI (w + t)) n := by rw [la_scan, if_pos h]
    rw [la_best]
    by_cases g : la_full ki pl ch (nI (w + t)) n = -1
    · rw [if_pos g, show t + (f + 1) = (t + 1) + f by omega, la_scan_best f (t + 1) (e.trans g)]
      rfl
    · rw [if_neg g, show t + (f + 1) = (t + 1) + f by omega, la_scan_stop (by rw [e]; exact g), e]
theorem la_scan_0 {ki pl : Nat → Int32} {ch : Nat → UInt64} {n w f : Nat} : la_scan ki pl ch n w f = la_best ki pl ch n f w := by
  have h := la_scan_best (ki := ki) (pl := pl) (ch := ch) (n := n) (w := w) f 0 rfl
  rw [Nat.zero_add] at h
  exact h
/-- a row without those that are not kept, its length so far -/
def cp_k (keep : Int32 → Bool) (f : Nat → Int32) : Nat → (Nat → Int32) × Nat
  | 0 => (f, 0)
  | i + 1 => (upd (cp_k keep f i).1 (cp_k keep f i).2 ((cp_k keep f i).1 i), if keep (upd (cp_k keep f i).1 (cp_k keep f i).2 ((cp_k keep f i).1 i) i) = true then (cp_k keep f i).2 + 1 else (cp_k keep f i).2)
theorem cp_le (keep : Int32 → Bool) (f : Nat → Int32) : ∀ i, (cp_k keep f i).2 ≤ i
  | 0 => Nat.le_refl 0
  | i + 1 => by
    have h := cp_le keep f i
    rw [cp_k]
    dsimp only
    split
    · exact Nat.succ_le_succ h
    · exact Nat.le_succ_of_le h
def cp_1 (m : Nat) (v : Int32) : Bool := decide (¬ v = nI m)
def cp_2 (m : Nat) (v : Int32) : Bool := decide (¬ v / 2 = nI m)
def al_has (al : Nat → Int32) (x : Int32) : Nat → Bool
  | 0 => false
  | i + 1 => al_has al x i || decide (al i = x)
def bg_n (B h : Bool) : Nat := if B = true ∧ h = false then 1 else 0
def bg_a (B h : Bool) (al : Nat → Int32) (n : Nat) (x : Int32) : Nat → Int32 := if B = true ∧ h = false then upd al n x else al
def la_dk (x : UInt64) : Bool := decide (Op.cmpValue (FP.dcmp x 0) CmpOp.l = 0)
def la_lt9 (h s : Int32) : Bool := decide (¬ h - s ≤ 9)
/-- the alarms that begin in an hour, miner by miner: the row, its length, how many began -/
def gb_L (la si : Nat → Int32) (h : Int32) (p : (Nat → Int32) × Nat × Nat) (m : Nat) : (Nat → Int32) × Nat × Nat :=
  (bg_a (la_lt9 h (si m)) (al_has p.1 (nI (2 * m)) p.2.1) p.1 p.2.1 (nI (2 * m)), p.2.1 + bg_n (la_lt9 h (si m)) (al_has p.1 (nI (2 * m)) p.2.1), p.2.2 + bg_n (la_lt9 h (si m)) (al_has p.1 (nI (2 * m)) p.2.1))
def gb_D (la : Nat → Int32) (ch : Nat → UInt64) (p : (Nat → Int32) × Nat × Nat) (m : Nat) : (Nat → Int32) × Nat × Nat :=
  (bg_a (la_dk (ch (la m).toNatClampNeg)) (al_has p.1 (nI (2 * m + 1)) p.2.1) p.1 p.2.1 (nI (2 * m + 1)), p.2.1 + bg_n (la_dk (ch (la m).toNatClampNeg)) (al_has p.1 (nI (2 * m + 1)) p.2.1), p.2.2 + bg_n (la_dk (ch (la m).toNatClampNeg)) (al_has p.1 (nI (2 * m + 1)) p.2.1))
def gb_k (la si : Nat → Int32) (ch : Nat → UInt64) (h : Int32) (al : Nat → Int32) (n : Nat) : Nat → (Nat → Int32) × Nat × Nat
  | 0 => (al, n, 0)
  | m + 1 => if la m = -1 then gb_k la si ch h al n m else gb_D la ch (gb_L la si h (gb_k la si ch h al n m) m) m
/-- the spare lamps, board place by board place -/
def sp_b (ki la wa bo : Nat → Int32) (i : Nat) : Bool := decide (¬ ki (la (bo i).toNatClampNeg).toNatClampNeg ≤ wa (bo i).toNatClampNeg)
/-- the reference's sums -/
def la_smm (pl : Nat → Int32) (f : Nat → UInt64) : Nat → UInt64
  | 0 => 0
  | j + 1 => FP.dadd (la_smm pl f j) (if pl j = 0 then f j else 0)
theorem la_smm_eq {pl : Nat → Int32} {f : Nat → UInt64} {n : Nat} (h : ∀ i, i < n → zn_p (f i)) (hn : n ≤ 40) : ∀ j, j ≤ n → la_smm pl f j = la_sum pl f j
  | 0, _ => rfl
  | j + 1, hj => by
    rw [la_smm, la_sum, la_smm_eq h hn j (by omega)]
    by_cases g : pl j = 0
    · rw [if_pos g, if_pos g]
    · rw [if_neg g, if_neg g]
      exact zn_add0 (Nat.le_of_lt (zn_K_le (zn_sum h hn j (by omega)) (by omega)))
def la_rc (c k : UInt64) : Int32 := if la_gt k 0 = true then FP.d2i (FP.dmul (FP.ddiv c k) 4636737291354636288) else 0
theorem zn_divn {c k : UInt64} {K : Nat} (hc : zn_K K c) (hk : zn_K K k) (hK : K ≤ 2047) (h : ¬ k.toNat = 0) : fz_n (FP.ddiv c k) ∧ fz_n (FP.dmul (FP.ddiv c k) 4636737291354636288) := by
  have h1 := zn_K_le hc hK
  have h2 := zn_K_le hk hK
  have n1 : FP.Core.dIsNaN (FP.Core.ddiv c k) = false := FP.Core.ddiv_out ((FP.Core.notNaN_iff c).mpr (fz_ne (Nat.le_of_lt h1))) (zn_K_fin hk hK) (by
    rw [FP.Core.zero_bits2, Nat.mod_eq_of_lt (by omega)]
    exact h)
  have n2 : FP.Core.dIsNaN (FP.Core.dmul (FP.Core.ddiv c k) 4636737291354636288) = false := FP.Core.dmul_out' n1 (by rw [FP.Core.fin_bits]; decide) (by rw [FP.Core.zero_bits2]; decide)
  exact ⟨(FP.Core.notNaN_iff _).mp n1, (FP.Core.notNaN_iff _).mp n2⟩
theorem fz_gt0 {k : UInt64} (h : k.toNat ≤ 9218868437227405312) : la_gt k 0 = true ↔ ¬ k.toNat = 0 := by
  rw [fz_gt (fz_ne h) (fz_ne (by decide)), fz_lt_bits (by decide) h]
  show 0 < k.toNat ↔ _
  omega
theorem fz_eq0 {k : UInt64} (h : k.toNat ≤ 9218868437227405312) : la_dk k = true ↔ k.toNat = 0 := by
  unfold la_dk
  have n1 := fz_ne h
  have n2 : fz_n 0 := fz_ne (by decide)
  have e1 := fz_lt_bits (x := k) (y := 0) h (by decide)
  have e2 := fz_lt_bits (x := 0) (y := k) (by decide) h
  have e3 : (0 : UInt64).toNat = 0 := rfl
  rcases fz_cmp3 n1 n2 with ⟨g, e⟩ | ⟨g, e⟩ | ⟨g, e⟩
  · have := e1.mp g; omega
  · rw [e]
    refine iff_of_true (by decide +kernel) ?_
    refine Nat.eq_zero_of_not_pos (fun q => ?_)
    have := e2.mpr (by omega)
    omega
  · rw [e]
    refine iff_of_false (by decide +kernel) ?_
    have := e2.mp g
    omega
theorem zn_smm {pl : Nat → Int32} {f : Nat → UInt64} {n : Nat} (h : ∀ i, i < n → zn_p (f i)) (hn : n ≤ 40) {j : Nat} (hj : j < n) : vf_n64 (FP.dadd (la_smm pl f j) (f j)) ∧ vf_n64 (FP.dadd (la_smm pl f j) 0) := by
  rw [la_smm_eq h hn j (by omega)]
  refine ⟨zn_sum_n h hn hj, ?_⟩
  have h1 := zn_K_le (zn_sum (pl := pl) h hn j (by omega)) (by omega)
  rw [zn_add0 (Nat.le_of_lt h1)]
  exact zn_of_ne (fz_ne (Nat.le_of_lt h1))
/-- the charges an hour later -/
def la_hr (pl le : Nat → Int32) (ch ca : Nat → UInt64) (n : Nat) : Nat → UInt64 := (la_lo pl (la_burn pl le ch n) ca n).1
/-- there is room for the alarms that begin -/
def gb_ok (la si : Nat → Int32) (ch : Nat → UInt64) (h : Int32) (al : Nat → Int32) (n M : Nat) : Prop := ∀ mi, mi < M → ¬ la mi = -1 →
  (la_lt9 h (si mi) = true → al_has (gb_k la si ch h al n mi).1 (nI (2 * mi)) (gb_k la si ch h al n mi).2.1 = false → (gb_k la si ch h al n mi).2.1 < 60) ∧
  (la_dk (ch (la mi).toNatClampNeg) = true → al_has (gb_L la si h (gb_k la si ch h al n mi) mi).1 (nI (2 * mi + 1)) (gb_L la si h (gb_k la si ch h al n mi) mi).2.1 = false → (gb_L la si h (gb_k la si ch h al n mi) mi).2.1 < 60) ∧
  (gb_k la si ch h al n mi).2.1 ≤ 60 ∧ (gb_L la si h (gb_k la si ch h al n mi) mi).2.1 ≤ 60
end
section
/-! own rows: what a method that throws needs beside its words, and its contract -/
abbrev zx_A : String := "java/lang/IllegalArgumentException"
abbrev zx_S : String := "java/lang/IllegalStateException"
abbrev zx_I : String := "java/lang/IndexOutOfBoundsException"
abbrev zx_N : List String := ["java/lang/RuntimeException", "java/lang/Exception"]
def zx_R (k : Nat) (tx : String) (U : State) : Prop := ∃ sa, vk_R RX3 k tx sa U
abbrev zx_d1 : Cond := .declares (Bundle.initS "java/lang/RuntimeException")
abbrev zx_d2 : Cond := .declares (Bundle.initS "java/lang/Exception")
abbrev zx_d3 : Cond := .declares (Bundle.initS Bundle.tN)
def zx_D (U : State) : Prop := va_Nw zx_d1 U ∧ va_Nw zx_d2 U ∧ va_Nw zx_d3 U
theorem zx_D.warm {s U : State} (hW : s.WarmedH U.vm) (h : zx_D s) : zx_D U := ⟨va_Nw.warmD hW h.1, va_Nw.warmD hW h.2.1, va_Nw.warmD hW h.2.2⟩
theorem zx_D.same {s U : State} (hv : U.vm = s.vm) (h : zx_D s) : zx_D U := ⟨va_Nw.same rfl hv.symm h.1, va_Nw.same rfl hv.symm h.2.1, va_Nw.same rfl hv.symm h.2.2⟩
def zx_C (U : State) : Prop := (va_Nw (.castable zx_A zx_A) U ∧ va_Nw (.castable zx_S zx_S) U ∧ va_Nw (.castable zx_I zx_I) U) ∧ (va_Nc zx_S zx_A U ∧ va_Nc zx_S zx_I U)
def zx_E (U : State) : Prop := (zx_C U ∧ zx_D U) ∧ zx_R 147 "there is no such class" U ∧ zx_R 44 "there are 40 lamps" U ∧ zx_R 54 "there are 30 miners" U ∧ zx_R 151 "there is no such miner" U ∧ zx_R 65 "the tally is on the board" U ∧ zx_R 73 "there is no lamp" U ∧ zx_R 83 "the tally is not on the board" U ∧ zx_R 154 "there is no such lamp" U ∧ zx_R 103 "the lamp is not on the rack" U ∧ zx_R 108 "the lamp is not set aside" U ∧ zx_R 115 "hours must be 1 to 100" U
theorem zx_R.warm {k : Nat} {tx : String} {s U : State} (hW : s.WarmedH U.vm) (h : zx_R k tx s) : zx_R k tx U := by
  obtain ⟨sa, h⟩ := h
  exact ⟨sa, vk_R.warm hW h⟩
theorem zx_C.warm {s U : State} (hW : s.WarmedH U.vm) (h : zx_C s) : zx_C U :=
  ⟨⟨va_Nw.warmC hW h.1.1, va_Nw.warmC hW h.1.2.1, va_Nw.warmC hW h.1.2.2⟩, va_Nc.moved hW.alike h.2.1, va_Nc.moved hW.alike h.2.2⟩
theorem zx_E.warm {s U : State} (hW : s.WarmedH U.vm) (h : zx_E s) : zx_E U := by
  obtain ⟨h0, h1, h2, h3, h4, h5, h6, h7, h8, h9, h10, h11⟩ := h
  exact ⟨⟨h0.1.warm hW, h0.2.warm hW⟩, h1.warm hW, h2.warm hW, h3.warm hW, h4.warm hW, h5.warm hW, h6.warm hW, h7.warm hW, h8.warm hW, h9.warm hW, h10.warm hW, h11.warm hW⟩
theorem zx_C.same {s U : State} (hv : U.vm = s.vm) (h : zx_C s) : zx_C U := by
  have ha : s.vm.Alike U.vm := by rw [hv]; exact Vm.Alike.refl s.vm
  exact ⟨⟨va_Nw.same rfl hv.symm h.1.1, va_Nw.same rfl hv.symm h.1.2.1, va_Nw.same rfl hv.symm h.1.2.2⟩, va_Nc.moved ha h.2.1, va_Nc.moved ha h.2.2⟩
theorem zx_R.same {k : Nat} {tx : String} {s U : State} (hv : U.vm = s.vm) (h : zx_R k tx s) : zx_R k tx U := by
  obtain ⟨sa, h⟩ := h
  exact ⟨sa, vk_R.same hv h⟩
theorem zx_E.same {s U : State} (hv : U.vm = s.vm) (h : zx_E s) : zx_E U := by
  obtain ⟨h0, h1, h2, h3, h4, h5, h6, h7, h8, h9, h10, h11⟩ := h
  exact ⟨⟨h0.1.same hv, h0.2.same hv⟩, h1.same hv, h2.same hv, h3.same hv, h4.same hv, h5.same hv, h6.same hv, h7.same hv, h8.same hv, h9.same hv, h10.same hv, h11.same hv⟩
/-- the two statics of Throwable, in H -/
def zx_H (A : Nat → Prop) (U : State) (H : Heap) : Prop := vx_Zq Bundle.tN "UNASSIGNED_STACK" Bundle.steD A U H ∧ vx_Zq Bundle.tN "SUPPRESSED_SENTINEL" Bundle.listD A U H
theorem zx_H.moved {A : Nat → Prop} {u U : State} {H : Heap} (hvm : u.vm.Alike U.vm) (h : zx_H A u H) : zx_H A U H := ⟨vx_Zq.moved hvm h.1, vx_Zq.moved hvm h.2⟩
theorem zx_H.kept {A : Nat → Prop} {U : State} {H H1 : Heap} (h : zx_H A U H) (hq : ∀ a : Nat, a < H.size → ¬ A a → H1[a]? = H[a]?) : zx_H A U H1 := ⟨vx_Zq.kept h.1 hq, vx_Zq.kept h.2 hq⟩
theorem zx_H.narrow {A B : Nat → Prop} {U : State} {H : Heap} (h : zx_H A U H) (hAB : ∀ q, B q → A q) : zx_H B U H := ⟨vx_Zq.narrow h.1 hAB, vx_Zq.narrow h.2 hAB⟩
def zx_Pre (D : va_G) (ty : List (ClassId × FieldType)) (ws : va_W) (sz : Nat) : State → Prop := fun U => zq_Pre D ty ws sz U ∧ zx_H (va_A ws sz) U U.heap ∧ zx_E U
theorem zx_blind {as : List Value} {D : va_G} {ty : List (ClassId × FieldType)} {ws : va_W} {sz : Nat} : FrameBlind (va_Pc as (zx_Pre D ty ws sz)) :=
  fun a U g mk q => by
    obtain ⟨q0, ⟨q1, qP, qK, qD⟩, qH, qE⟩ := q
    exact ⟨q0, ⟨q1, qP, va_K.moved (u := U) (U := U.calling g mk a) (Vm.Alike.refl U.vm) qK, qD⟩, zx_H.moved (u := U) (U := U.calling g mk a) (Vm.Alike.refl U.vm) qH, zx_E.same (s := U) (U := U.calling g mk a) rfl qE⟩
abbrev zx_X (D : va_G) (ty : List (ClassId × FieldType)) (E : String) (ws : va_W) (A : Nat → Prop) : String → State → State → Prop := vx_X (fun (_ : Unit) => True) (fun (E1 : String) (_ : Unit) (t : State) => E1 = E ∧ zq_B D ty A ws () t) A
abbrev zx_Mv (l : Launch) (y : MethodName) (wsy : List Cond) (rm : Room) (D : va_G) (ty : List (ClassId × FieldType)) (as : List Value) (w0 : va_W) (E : String) (sz : Nat) : Prop :=
  vx_Met l y wsy rm (va_Pc as (zx_Pre D ty w0 sz)) (va_Qv (fun (_ : Unit) => False) (fun _ _ => True) (fun _ => False)) (zx_X D ty E w0 (va_A w0 sz)) 1 6 (va_A w0 sz)
abbrev zx_Mi (l : Launch) (y : MethodName) (wsy : List Cond) (rm : Room) (D : va_G) (ty : List (ClassId × FieldType)) (as : List Value) (w0 : va_W) (E : String) (sz : Nat) : Prop :=
  vx_Met l y wsy rm (va_Pc as (zx_Pre D ty w0 sz)) (va_Qi (fun (_ : Int32) (_ : Unit) => False) (fun _ _ => True) (fun _ => False)) (zx_X D ty E w0 (va_A w0 sz)) 1 6 (va_A w0 sz)
abbrev zx_Md (l : Launch) (y : MethodName) (wsy : List Cond) (rm : Room) (D : va_G) (ty : List (ClassId × FieldType)) (as : List Value) (w0 : va_W) (E : String) (sz : Nat) : Prop :=
  vx_Met l y wsy rm (va_Pc as (zx_Pre D ty w0 sz)) (va_Qd (fun (_ : UInt64) (_ : Unit) => False) (fun _ _ => True) (fun _ => False)) (zx_X D ty E w0 (va_A w0 sz)) 1 6 (va_A w0 sz)
theorem zx_hatA {args : Array Value} {s : State} (h1 : ∀ w ∈ (vx_atS RX3 117 zx_A zx_N).filter goodWord, w.before args s = true) (hE : zx_E s) : ∀ w ∈ vx_atS RX3 117 zx_A zx_N, w.before args s = true := vx_hat (B := [.castable zx_A zx_A, zx_d1, zx_d2, zx_d3]) h1 (by decide +kernel) (vx_c (va_Nw.use rfl hE.1.1.1.1) (vx_c (va_Nw.use rfl hE.1.2.1) (vx_c (va_Nw.use rfl hE.1.2.2.1) (vx_c (va_Nw.use rfl hE.1.2.2.2) vx_n))))
theorem zx_hatS {args : Array Value} {s : State} (h1 : ∀ w ∈ (vx_atS RX3 46 zx_S zx_N).filter goodWord, w.before args s = true) (hE : zx_E s) : ∀ w ∈ vx_atS RX3 46 zx_S zx_N, w.before args s = true := vx_hat (B := [.castable zx_S zx_S, zx_d1, zx_d2, zx_d3]) h1 (by decide +kernel) (vx_c (va_Nw.use rfl hE.1.1.1.2.1) (vx_c (va_Nw.use rfl hE.1.2.1) (vx_c (va_Nw.use rfl hE.1.2.2.1) (vx_c (va_Nw.use rfl hE.1.2.2.2) vx_n))))
theorem zx_hatI {args : Array Value} {s : State} (h1 : ∀ w ∈ (vx_atS RX3 153 zx_I zx_N).filter goodWord, w.before args s = true) (hE : zx_E s) : ∀ w ∈ vx_atS RX3 153 zx_I zx_N, w.before args s = true := vx_hat (B := [.castable zx_I zx_I, zx_d1, zx_d2, zx_d3]) h1 (by decide +kernel) (vx_c (va_Nw.use rfl hE.1.1.1.2.2) (vx_c (va_Nw.use rfl hE.1.2.1) (vx_c (va_Nw.use rfl hE.1.2.2.1) (vx_c (va_Nw.use rfl hE.1.2.2.2) vx_n))))
theorem zx_goodA : ∀ w ∈ Cond.classLink RX3 113 zx_A :: Cond.initialized zx_A :: vx_atS RX3 117 zx_A zx_N, vx_ot w = true := by decide +kernel
theorem zx_goodS : ∀ w ∈ Cond.classLink RX3 42 zx_S :: Cond.initialized zx_S :: vx_atS RX3 46 zx_S zx_N, vx_ot w = true := by decide +kernel
theorem zx_goodI : ∀ w ∈ Cond.classLink RX3 149 zx_I :: Cond.initialized zx_I :: vx_atS RX3 153 zx_I zx_N, vx_ot w = true := by decide +kernel
section ZX
variable {p : Program} {l : Launch} {e : Env} {R : Room} {s : State} {m : MethodId} {args : Array Value} {below : List Frame} {meth : Method} {c : Code} {H : Heap} {locs : List Loc} {cells slots : Nat} {cc : ByteArray} {pc : Nat} {ls : Array Slot} {rest st0 : List Value}
variable {D : va_G} {ty : List (ClassId × FieldType)} {A : Nat → Prop} {H0 : Heap} {ws wc wr ws' : va_W} {y : MethodName} {bytes : ByteArray} {maxL nL n index : Nat} {ret : Option FieldType} {wsy Ts : List Cond} {rm : Room} {own C E : String} {b ci N : Nat} {T : u_T} {fs As : List Value}
/-- thrown here: the world stands as it stood -/
theorem zx_thrown (hP : va_P D vwCl ws H) (hK : va_K D vwCl ty s) (hD : va_D A ws) (hS : va_S A s.heap H locs) : ∀ t : State, s.vm.Alike t.vm → H.size ≤ t.heap.size → (∀ q : Nat, q < H.size → t.heap[q]? = H[q]?) → zx_X D ty E ws A E s t :=
  fun t ha hz hq => ⟨(), trivial, ⟨rfl, hP.kept (fun k q hk => hq q.1 (vx_lt hP hk)), va_K.moved ha hK, hD⟩, Nat.le_trans hS.1 hz, fun q h1 h2 => (hq q (Nat.lt_of_lt_of_le h1 hS.1)).trans (hS.2.1 q h1 h2)⟩
theorem zx_went (hP : va_P D vwCl ws H) (hK : va_K D vwCl ty s) (hD : va_D A ws) (hS : va_S A s.heap H locs) : ∀ t : State, t.heap = H → s.vm.Alike t.vm → zx_X D ty E ws A E s t :=
  fun t ht ha => ⟨(), trivial, ⟨rfl, by rw [ht]; exact hP, va_K.moved ha hK, hD⟩, hS.F ht⟩
theorem zx_pre (hK : va_K D vwCl ty s) (hP : va_P D vwCl ws H) (hD : va_D A ws) (hS : va_S A H0 H locs) (hA : ∀ q, H0.size ≤ q → A q) (hH : zx_H A s H) (hE : zx_E s) (isC : List Nat) (hC : isC.map (fun i => ws[i]?) = wc.map some) (hnC : va_nd isC = true) : ∀ U : State, U.heap = H → s.WarmedH U.vm → va_Pc As (zx_Pre D ty wc H.size) As.toArray U :=
  fun U hU hW => ⟨rfl, (zq_pre (As := As) hK hP hD isC hC hnC U hU hW).2, by rw [hU]; exact (hH.moved hW.alike).narrow (va_free hD hS hA isC hC), hE.warm hW⟩
/-- the callee throws: here q is thrown over this frame, the world as it stood -/
theorem zx_cVv {Q : State → Prop} (S : CallFix p m c cc nL s args Ts own) (hM : zx_Mv l y wsy rm D ty (.ref b :: As) wc E H.size) (cw : CallW R s args own C index y bytes maxL ret wsy rm 1 6 n)
    (hK : va_K D vwCl ty s) (hP : va_P D vwCl ws H) (hD : va_D A ws) (hS : va_S A H0 H locs) (hA : ∀ q, H0.size ≤ q → A q) (hH : zx_H A s H) (hE : zx_E s) (isC isR pm : List Nat) (hC : isC.map (fun i => ws[i]?) = wc.map some) (hnC : va_nd isC = true) (hR : isR.map (fun i => ws[i]?) = wr.map some) (hn : va_nd isR = true) (hdis : ∀ i ∈ isR, i ∉ isC)
    (hpm : pm.map (fun i => (wr ++ wc)[i]?) = ws.map some) (hnp : va_nd pm = true) (hc : vwCl[ci]? = some (C, T, N)) (q0 : Nat) (he : wc[q0]? = some (b, .inr (ci, fs))) (hln : As.length = n) (hsz : ls.size = nL) (hst : st0 = As.reverse ++ .ref b :: rest) (hW : (rest.map fun v => v.category).sum ≤ 8) (hdg : decode cc pc = .ok (.invokevirtual index, 3)) (hcs : cells + 1 ≤ R.cells ∧ slots + 6 ≤ R.slots)
    (kx : ∀ (H1 : Heap) (locs1 : List Loc) (q9 : Addr) (ce : Cell), va_P D vwCl ws H1 → va_D A ws → va_S A H0 H1 locs1 → H1[q9]? = some ce → ce.vm = .none → s.vm.findClass E = some ce.cls → vx_W p l e R s m args below meth c H1 locs1 (cells + 1) (slots + 6) Q (F0 m pc ls rest) q9) : W p l e R s m args below meth c H locs cells slots Q (F0 m pc ls st0) := by
  have hFc := va_free hD hS hA isC hC
  refine vx_callv (vx_runV (As := As) (rest := rest) S hM cw ⟨zx_blind, va_recv hK (hP.sub isC (zq_fm hC)) hc he, zx_pre hK hP hD hS hA hH hE isC hC hnC⟩ rfl hln hsz hst (lv_room hW) hdg hcs) hS (fun q _ h => h.elim) hFc (fun q _ h => hFc q h) (fun E1 ce q9 u t H1 locs1 ht hvm _ hB hz1 hk1 hS1 hce hcv hcl => ?_) (fun u t H1 locs1 ht hvm hw => hw.elim)
  obtain ⟨rfl, hB⟩ := hB
  obtain ⟨h1, h2⟩ := zq_back hP hD hS hA isC isR hC hR hn hdis pm hpm hnp ht hk1 hB
  exact kx H1 locs1 q9 ce h1 h2 hS1 hce hcv hcl
theorem zx_cVi {Q : State → Prop} (S : CallFix p m c cc nL s args Ts own) (hM : zx_Mi l y wsy rm D ty (.ref b :: As) wc E H.size) (cw : CallW R s args own C index y bytes maxL ret wsy rm 1 6 n)
    (hK : va_K D vwCl ty s) (hP : va_P D vwCl ws H) (hD : va_D A ws) (hS : va_S A H0 H locs) (hA : ∀ q, H0.size ≤ q → A q) (hH : zx_H A s H) (hE : zx_E s) (isC isR pm : List Nat) (hC : isC.map (fun i => ws[i]?) = wc.map some) (hnC : va_nd isC = true) (hR : isR.map (fun i => ws[i]?) = wr.map some) (hn : va_nd isR = true) (hdis : ∀ i ∈ isR, i ∉ isC)
    (hpm : pm.map (fun i => (wr ++ wc)[i]?) = ws.map some) (hnp : va_nd pm = true) (hc : vwCl[ci]? = some (C, T, N)) (q0 : Nat) (he : wc[q0]? = some (b, .inr (ci, fs))) (hln : As.length = n) (hsz : ls.size = nL) (hst : st0 = As.reverse ++ .ref b :: rest) (hW : (rest.map fun v => v.category).sum ≤ 8) (hdg : decode cc pc = .ok (.invokevirtual index, 3)) (hcs : cells + 1 ≤ R.cells ∧ slots + 6 ≤ R.slots)
    (kx : ∀ (H1 : Heap) (locs1 : List Loc) (q9 : Addr) (ce : Cell), va_P D vwCl ws H1 → va_D A ws → va_S A H0 H1 locs1 → H1[q9]? = some ce → ce.vm = .none → s.vm.findClass E = some ce.cls → vx_W p l e R s m args below meth c H1 locs1 (cells + 1) (slots + 6) Q (F0 m pc ls rest) q9) : W p l e R s m args below meth c H locs cells slots Q (F0 m pc ls st0) := by
  have hFc := va_free hD hS hA isC hC
  refine vx_calli (vx_runV (As := As) (rest := rest) S hM cw ⟨zx_blind, va_recv hK (hP.sub isC (zq_fm hC)) hc he, zx_pre hK hP hD hS hA hH hE isC hC hnC⟩ rfl hln hsz hst (lv_room hW) hdg hcs) hS (fun q _ h => h.elim) hFc (fun q _ h => hFc q h) (fun E1 ce q9 u t H1 locs1 ht hvm _ hB hz1 hk1 hS1 hce hcv hcl => ?_) (fun r u t H1 locs1 ht hvm hw => hw.elim)
  obtain ⟨rfl, hB⟩ := hB
  obtain ⟨h1, h2⟩ := zq_back hP hD hS hA isC isR hC hR hn hdis pm hpm hnp ht hk1 hB
  exact kx H1 locs1 q9 ce h1 h2 hS1 hce hcv hcl
theorem zx_cVd {Q : State → Prop} (S : CallFix p m c cc nL s args Ts own) (hM : zx_Md l y wsy rm D ty (.ref b :: As) wc E H.size) (cw : CallW R s args own C index y bytes maxL ret wsy rm 1 6 n)
    (hK : va_K D vwCl ty s) (hP : va_P D vwCl ws H) (hD : va_D A ws) (hS : va_S A H0 H locs) (hA : ∀ q, H0.size ≤ q → A q) (hH : zx_H A s H) (hE : zx_E s) (isC isR pm : List Nat) (hC : isC.map (fun i => ws[i]?) = wc.map some) (hnC : va_nd isC = true) (hR : isR.map (fun i => ws[i]?) = wr.map some) (hn : va_nd isR = true) (hdis : ∀ i ∈ isR, i ∉ isC)
    (hpm : pm.map (fun i => (wr ++ wc)[i]?) = ws.map some) (hnp : va_nd pm = true) (hc : vwCl[ci]? = some (C, T, N)) (q0 : Nat) (he : wc[q0]? = some (b, .inr (ci, fs))) (hln : As.length = n) (hsz : ls.size = nL) (hst : st0 = As.reverse ++ .ref b :: rest) (hW : (rest.map fun v => v.category).sum ≤ 8) (hdg : decode cc pc = .ok (.invokevirtual index, 3)) (hcs : cells + 1 ≤ R.cells ∧ slots + 6 ≤ R.slots)
    (kx : ∀ (H1 : Heap) (locs1 : List Loc) (q9 : Addr) (ce : Cell), va_P D vwCl ws H1 → va_D A ws → va_S A H0 H1 locs1 → H1[q9]? = some ce → ce.vm = .none → s.vm.findClass E = some ce.cls → vx_W p l e R s m args below meth c H1 locs1 (cells + 1) (slots + 6) Q (F0 m pc ls rest) q9) : W p l e R s m args below meth c H locs cells slots Q (F0 m pc ls st0) := by
  have hFc := va_free hD hS hA isC hC
  refine vx_calld (vx_runV (As := As) (rest := rest) S hM cw ⟨zx_blind, va_recv hK (hP.sub isC (zq_fm hC)) hc he, zx_pre hK hP hD hS hA hH hE isC hC hnC⟩ rfl hln hsz hst (lv_room hW) hdg hcs) hS (fun q _ h => h.elim) hFc (fun q _ h => hFc q h) (fun E1 ce q9 u t H1 locs1 ht hvm _ hB hz1 hk1 hS1 hce hcv hcl => ?_) (fun r u t H1 locs1 ht hvm hw => hw.elim)
  obtain ⟨rfl, hB⟩ := hB
  obtain ⟨h1, h2⟩ := zq_back hP hD hS hA isC isR hC hR hn hdis pm hpm hnp ht hk1 hB
  exact kx H1 locs1 q9 ce h1 h2 hS1 hce hcv hcl
theorem zx_cSv {Q : State → Prop} (S : CallFix p m c cc nL s args Ts own) (hM : zx_Mv l y wsy rm D ty As [] E H.size) (cw : CallB R s args own index y bytes maxL ret wsy rm 1 6 n ∧ (Cond.static y).before args s = true)
    (hK : va_K D vwCl ty s) (hP : va_P D vwCl ws H) (hD : va_D A ws) (hS : va_S A H0 H locs) (hA : ∀ q, H0.size ≤ q → A q) (hH : zx_H A s H) (hE : zx_E s) (hln : As.length = n) (hsz : ls.size = nL) (hst : st0 = As.reverse ++ rest) (hW : (rest.map fun v => v.category).sum ≤ 8) (hdg : decode cc pc = .ok (.invokestatic index, 3)) (hcs : cells + 1 ≤ R.cells ∧ slots + 6 ≤ R.slots)
    (kx : ∀ (H1 : Heap) (locs1 : List Loc) (q9 : Addr) (ce : Cell), va_P D vwCl ws H1 → va_D A ws → va_S A H0 H1 locs1 → H1[q9]? = some ce → ce.vm = .none → s.vm.findClass E = some ce.cls → vx_W p l e R s m args below meth c H1 locs1 (cells + 1) (slots + 6) Q (F0 m pc ls rest) q9) : W p l e R s m args below meth c H locs cells slots Q (F0 m pc ls st0) := by
  have hFc : ∀ q, va_A ([] : va_W) H.size q → A q := va_free (wc := []) hD hS hA [] rfl
  refine vx_callv (vx_runS (As := As) (rest := rest) S hM cw ⟨zx_blind, zx_pre (wc := []) hK hP hD hS hA hH hE [] rfl rfl⟩ rfl hln hsz hst (lv_room hW) hdg hcs) hS (fun q _ h => h.elim) hFc (fun q _ h => hFc q h) (fun E1 ce q9 u t H1 locs1 ht hvm _ hB hz1 hk1 hS1 hce hcv hcl => ?_) (fun u t H1 locs1 ht hvm hw => hw.elim)
  obtain ⟨rfl, hB⟩ := hB
  have h1 : va_P D vwCl ws H1 := hP.kept (fun k q hk => hk1 q.1 (vx_lt hP hk) (fun h => by
    rcases h with ⟨k, e, h⟩ | h
    · simp at h
    · exact absurd (vx_lt hP hk) (Nat.not_lt.mpr h)))
  exact kx H1 locs1 q9 ce h1 hD hS1 hce hcv hcl
/-- not caught here -/
theorem zx_on {Qc : Array Value → State → Outcome → State → Prop} {q9 : Addr} {ce : Cell} (hno : ∀ x ∈ c.exceptionTable.toList, False) (hlocks : meth.locks = false) (hP : va_P D vwCl ws H) (hK : va_K D vwCl ty s) (hD : va_D A ws) (hS : va_S A s.heap H locs) (hce : H[q9]? = some ce) (hcv : ce.vm = .none) (hcl : s.vm.findClass E = some ce.cls) (hc : cells ≤ 1) (hs : slots ≤ 6) :
    vx_W p l e R s m args below meth c H locs cells slots (vx_MQ below Qc (zx_X D ty E ws A) args s 1 6 A) (F0 m pc ls rest) q9 :=
  vx_out (fun x hx => (hno x hx).elim) hlocks hce hcv hcl (zx_went hP hK hD hS) hS.2.2 hc hs
end ZX
theorem la_fault_w {le ki : Nat → Int32} {ca : Nat → UInt64} {j : Nat} : la_fault (upd le j 0) ki ca j = 0 ↔ la_weak ki ca j = false := by
  unfold la_fault
  rw [if_pos pk_us]
  cases la_weak ki ca j with
  | false => exact iff_of_true rfl rfl
  | true => exact iff_of_false (by decide) (by decide)
theorem in_b_k {k : Int32} (h : in_b k 0 2 = true) : ¬ k < 0 ∧ k < 3 := by
  obtain ⟨j, hj, rfl⟩ := in_b_3 h
  exact ⟨nI_pos (by omega), (nI_ltI (b := 3) (by omega) (by decide)).mpr hj⟩
theorem in_b_kn {k : Int32} (h : in_b k 0 2 = false) : k < 0 ∨ ¬ k < 3 := by
  by_cases h1 : k < 0
  · exact Or.inl h1
  · refine Or.inr (fun h2 => ?_)
    obtain ⟨j, hj, rfl⟩ := nI_of h1
    have h3 := (nI_ltI (b := 3) hj (by decide)).mp h2
    have h4 : in_b (nI j) 0 (nI 3 - 1) = true := in_b_ok h3 (by decide)
    rw [show nI 3 - 1 = 2 from rfl] at h4
    rw [h4] at h
    cases h
theorem in_b_n {v : Int32} {n : Nat} (hn : n < 2 ^ 31) (h : in_b v 0 (nI n - 1) = false) : v < 0 ∨ ¬ v < nI n := by
  by_cases h1 : v < 0
  · exact Or.inl h1
  · refine Or.inr (fun h2 => ?_)
    obtain ⟨j, hj, rfl⟩ := nI_of h1
    rw [in_b_ok ((nI_ltI hj hn).mp h2) hn] at h
    cases h
abbrev zq_Sv (l : Launch) (y : MethodName) (wsy : List Cond) (rm : Room) (as : List Value) : Prop :=
  Met l y wsy rm (va_Pc as (fun _ => True)) (va_Qv (fun (_ : Unit) => True) (fun _ _ => True) (fun _ => False)) 0 0 (fun _ => False)
theorem zq_cSv {p : Program} {l : Launch} {e : Env} {R : Room} {s : State} {m : MethodId} {args : Array Value} {below : List Frame} {meth : Method} {c : Code} {H : Heap} {locs : List Loc} {cells slots : Nat} {Q : State → Prop} {cc : ByteArray} {pc : Nat} {ls : Array Slot} {rest st0 : List Value}
    {D : va_G} {A : Nat → Prop} {H0 : Heap} {ws : va_W} {y : MethodName} {bytes : ByteArray} {maxL nL n index : Nat} {ret : Option FieldType} {wsy Ts : List Cond} {rm : Room} {own : String} {As : List Value}
    (S : CallFix p m c cc nL s args Ts own) (hM : zq_Sv l y wsy rm As) (cw : CallB R s args own index y bytes maxL ret wsy rm 0 0 n ∧ (Cond.static y).before args s = true)
    (hP : va_P D vwCl ws H) (hS : va_S A H0 H locs) (hln : As.length = n) (hsz : ls.size = nL) (hst : st0 = As.reverse ++ rest) (hW : (rest.map fun v => v.category).sum ≤ 8) (hdg : decode cc pc = .ok (.invokestatic index, 3)) (hcs : cells ≤ R.cells ∧ slots ≤ R.slots)
    (kk : ∀ (H1 : Heap) (locs1 : List Loc), va_P D vwCl ws H1 → va_S A H0 H1 locs1 → W p l e R s m args below meth c H1 locs1 cells slots Q (F0 m (pc + 3) ls rest)) : W p l e R s m args below meth c H locs cells slots Q (F0 m pc ls st0) := by
  refine va_callv (va_runS (As := As) (rest := rest) S hM cw ⟨fun a U g mk q => q, fun U hU hW => ⟨rfl, trivial⟩⟩ rfl hln hsz hst (lv_room hW) hdg hcs) hS (fun q _ h => h.elim) (fun q h => h.elim) (fun u t H1 locs1 ht hvm hw hB hz1 hk1 hS1 => ?_)
  exact kk H1 locs1 (hP.kept (fun k q hk => hk1 q.1 (vx_lt hP hk) (fun h => h))) hS1
end
section
theorem zz_end : True := trivial
end
