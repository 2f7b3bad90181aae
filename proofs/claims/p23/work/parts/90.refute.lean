/-! the heap's growth against the claim's room -/
def zr_law : String := "LampRoomLaw"
def zy_P (b : Addr) (xs : List Int32) (args : Array Value) (s : State) : Prop := args = #[.ref b] ∧ s.IntsAt b xs ∧ xs.length ≤ 260 ∧ (Jvm.Cond.and given_1 narrow_1).before args s = true
/-- the step into the law's body (as in MetFree.of_bodySF of the library) -/
theorem zz_enter {l : Launch} {p : Program} {e : Env} (ha : l.admits e) (hc : FairCas e.choices) (hk : FairClock e.choices) {s : State} {m : MethodId} {args : Array Value} {below : List Frame} {S : Spec} (hf : s.frames = .invoking m args :: below) (happ : S.appliesLoose x e.platform s = true)
    (his : ∀ args (s : State) m, S.pre.before args s = true → s.methodNamed? x = some m → ∃ meth c, s.vm.method? m = some meth ∧ meth.code = some c ∧ c.code = code ∧ c.maxLocals = maxLocals ∧ meth.sig.returnType = ret ∧ meth.locks = false) :
    ∃ (meth : Method) (c : Code) (s₁ : State), BodyLoose p l x S code maxLocals ret e s m args below meth c s₁ ∧ c.maxLocals = maxLocals ∧ ∀ u, Steps p.tables e below (s₁.setTop (entryFrame m args maxLocals)) u → Steps p.tables e below s u := by
  obtain ⟨hrun, hable, halone, hname, hhears, hinit, hroom, hpre⟩ := (Spec.appliesLoose_iff hf).mp happ
  obtain ⟨meth, c, hmeth, hcode, hbytes, hlocals, hret, hlocks⟩ := his args s m hpre hname
  have hcur := State.cur_lt_of_frames hf
  have hf1 : (s.setFrames (.java (entryFrame m args maxLocals) :: below)).frames = .java (entryFrame m args maxLocals) :: below := State.frames_setFrames _ hcur
  have ht1 := State.topJava?_of_frames hf1
  have hplain : (s.setFrames (.java (entryFrame m args maxLocals) :: below)).plainMethod m := State.plainMethod.of_named (s := s) (plainFor_of_name (by decide)) hname hmeth
  have hAt : At (s.setFrames (.java (entryFrame m args maxLocals) :: below)) m c below :=
    ⟨by rw [ht1]; rfl, ⟨[], by rw [hf1]; rfl⟩, hrun, by simpa using hable, by simpa using halone, by rw [State.code?_eq]; simp [State.setFrames, hmeth, hcode], hplain⟩
  have hstep : (stepThread p.tables e s).1 = (s.setFrames (.java (entryFrame m args maxLocals) :: below)).setTop (entryFrame m args maxLocals) := by
    have hfull : e.platform.stackFull (s.setFrames below).me (s.setFrames below).frames c.maxLocals = false := by
      obtain ⟨-, h1, -, h2⟩ := State.hasRoom_stack hroom
      rw [hf, List.length_cons] at h1
      rw [State.localsInUse_invoking hf hmeth hcode] at h2
      have hw := stackUse_le_stackWeight below
      rw [State.frames_setFrames _ hcur]
      exact Platform.stackFull_eq_false (by rw [State.stackLimits_setFrames]; omega) (by rw [State.stackLimits_setFrames]; omega)
    rw [stepThread_invoking hf, (doInvoke_java (s := s.setFrames below) (e := e) (meth := meth) (code := c) hmeth hcode hlocks hfull).1, State.setTop_self ht1]
    simp only [State.pushFrame, State.frames_setFrames _ hcur, State.setFrames_setFrames, hlocals, entryFrame]
  exact ⟨meth, c, _, ⟨ha, hc, hk, by cases p <;> rfl, hf, hname, hhears, hinit, hroom, hpre, hmeth, hret, hlocks, hbytes, rfl, hAt⟩, hlocals, fun u hs => Steps.head (tb := p.tables) (e := e) ⟨hrun, hable, halone⟩ ⟨[.invoking m args], hf, by simp, by simp⟩ (hstep ▸ hs)⟩
/-- from a start with more room than the claim's: at some step, the law still under way, more than 311 cells are new -/
theorem zz_big {l : Launch} (hflags : l.flags = flags0) {p : Program} {e : Env} (ha : l.admits e) (hc : FairCas e.choices) (hk : FairClock e.choices) {s : State} {m : MethodId} {args : Array Value} {below : List Frame} (hf : s.frames = .invoking m args :: below)
    (happ : (headSpec (Jvm.Cond.code x code maxLocals ret :: tables_1) room2).appliesLoose x e.platform s = true) {b : Nat} {xs : List Int32} (hP : zy_P b xs args s) (h208 : 208 ≤ xs.length) (hxs : ∀ j, j < 104 → xs.getD (2 * j) 0 = 26 ∧ xs.getD (2 * j + 1) 0 = 10) :
    ∃ k, (∀ j, j < k → Within (stepsAlone p.tables e j s) below) ∧ s.heap.size + 312 ≤ (stepsAlone p.tables e k s).heap.size := by
  obtain ⟨meth, c, s₁, B, hml0, hgo⟩ := zz_enter (p := p) (S := headSpec (Jvm.Cond.code x code maxLocals ret :: tables_1) room2) ha hc hk hf happ (fun args s m h hn => by
    obtain ⟨meth, c, h1, h2, h3, h4, h5, h6, -, -⟩ := Cond.code_spec hn (atoms_spec (ws := Jvm.Cond.code x code maxLocals ret :: tables_1) h _ List.mem_cons_self)
    exact ⟨meth, c, h1, h2, h3, h4, h5, h6⟩)
  obtain ⟨rfl, hx, hbd, hgv⟩ := hP
  obtain ⟨scr, harrAt, hlist, hof, hsmall⟩ := hx
  obtain ⟨hcb, hkn, -, -⟩ := State.arrayAt?_spec harrAt
  have hown : s.vm.findClass RL = some m.cls := findClass_of_methodNamed B.named
  have hts0 : ∀ c ∈ (Jvm.Cond.code x code maxLocals ret :: tables_1), c.before #[Value.ref b] s = true := atoms_spec (ws := Jvm.Cond.code x code maxLocals ret :: tables_1) B.pre
  have hts : ∀ w ∈ lw_tbl, w.before #[Value.ref b] s = true := k2_hts_sels lw_privs (fun w hw => hts0 w (List.mem_cons_of_mem _ hw)) lw_privs_ok
  have hml : c.maxLocals = 16 := B.maxLocals_eq (hts0 _ List.mem_cons_self)
  have X₀ : Stand p l e room2 s m #[Value.ref b] below meth c s₁ [] 0 0 := Stand.of_body B
  have hh0 : s₁.heap = s.heap := by rw [B.state]; rfl
  have hsz : scr.slots.size = xs.length := by rw [← Array.length_toList, hlist, List.length_map]
  have hval : ∀ j : Nat, j < xs.length → scr.slots[j]? = some (.int (xs.getD j 0)) := fun j hj => by
    rw [← Array.getElem?_toList, hlist]
    simp [hj]
  have hbl : b < s.heap.size := (Array.getElem?_eq_some_iff.mp hcb).1
  have hX : va_X b xs.length (fun j => xs.getD j 0) s s.heap := ⟨scr, hcb, hof, hkn, hsz, hval⟩
  have K : W p l e room2 s m #[Value.ref b] below meth c s₁.heap [] 0 0 (fun t => s.heap.size + 312 ≤ t.heap.size) (entryFrame m ([Value.ref b] : List Value).toArray 16) := by
    rw [hh0]
    exact big_start l hflags hbd h208 hxs B.exec B.bytes hml hown hts hX hbl hgv
  obtain ⟨t, a1, hbig⟩ := K s₁ rfl X₀
  obtain ⟨k, hk9, hw⟩ := hgo t a1
  exact ⟨k, hw, by rw [hk9]; exact hbig⟩
/-- what is owed is false, if the law has such a start -/
theorem zz_false {l : Launch} (hflags : l.flags = flags0) (hlists : Lists l classFile x code maxLocals ret tables_1 room_1) (hworld : World_1 l) {p : Program} {e : Env} (ha : l.admits e) (hc : FairCas e.choices) (hk : FairClock e.choices) {s : State} {m : MethodId} {args : Array Value} {below : List Frame} (hf : s.frames = .invoking m args :: below)
    (hfit : argsFit s.vm m args = true) (hheap : heapFits s = true) (h1 : (headSpec (Jvm.Cond.code x code maxLocals ret :: tables_1) room_1).applies x e.platform s = true) (h2 : (headSpec (Jvm.Cond.code x code maxLocals ret :: tables_1) room2).appliesLoose x e.platform s = true)
    (hcalls : Calls_1 p.tables e args s) (hrest : rest_1 p.tables e args s) (hpre : Pre_1 p.tables e args s) {b : Nat} {xs : List Int32} (hP : zy_P b xs args s) (h208 : 208 ≤ xs.length) (hxs : ∀ j, j < 104 → xs.getD (2 * j) 0 = 26 ∧ xs.getD (2 * j + 1) 0 = 10) : ¬ Claimed_1_1 := by
  intro hcl
  obtain ⟨n, o, hw, hrun, hend, hpost⟩ := hcl l hflags hlists hworld p e ha hc hk s m args below hf hfit hheap h1 ⟨hcalls, hrest, hpre⟩
  obtain ⟨k, hw2, hbig⟩ := zz_big hflags (p := p) ha hc hk hf h2 hP h208 hxs
  obtain ⟨-, hdr⟩ := hpost
  obtain ⟨⟨-, -, hsame⟩, -, -⟩ := hdr
  have hle : (stepsAlone p.tables e n s).heap.size ≤ s.heap.size + 311 := hsame.2.2.1
  by_cases hnk : n < k
  · exact (Ended.not_within hend) (hw2 n hnk)
  · have hg := (stepsAlone_heap_grows_add p.tables e k (n - k) s).1
    rw [show k + (n - k) = n by omega] at hg
    omega
