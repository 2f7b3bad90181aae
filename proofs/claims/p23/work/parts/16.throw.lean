/-! own rows: what a method that throws needs beside its words, and its contract -/
abbrev zx_A : String := "java/lang/IllegalArgumentException"
abbrev zx_S : String := "java/lang/IllegalStateException"
abbrev zx_I : String := "java/lang/IndexOutOfBoundsException"
abbrev zx_N : List String := ["java/lang/RuntimeException", "java/lang/Exception"]
def zx_R (k : Nat) (tx : String) (U : State) : Prop := ∃ sa, vk_R RX3 k tx sa U
abbrev zx_d1 : Cond := .declares (Bundle.initS "java/lang/RuntimeException")
abbrev zx_d2 : Cond := .declares (Bundle.initS "java/lang/Exception")
abbrev zx_d3 : Cond := .declares (Bundle.initS Bundle.tN)
def zx_D (U : State) : Prop := va_Nw zx_d1 U ∧ va_Nw zx_d2 U ∧ va_Nw zx_d3 U
theorem zx_D.warm {s U : State} (hW : s.WarmedH U.vm) (h : zx_D s) : zx_D U := ⟨va_Nw.warmD hW h.1, va_Nw.warmD hW h.2.1, va_Nw.warmD hW h.2.2⟩
theorem zx_D.same {s U : State} (hv : U.vm = s.vm) (h : zx_D s) : zx_D U := ⟨va_Nw.same rfl hv.symm h.1, va_Nw.same rfl hv.symm h.2.1, va_Nw.same rfl hv.symm h.2.2⟩
def zx_C (U : State) : Prop := (va_Nw (.castable zx_A zx_A) U ∧ va_Nw (.castable zx_S zx_S) U ∧ va_Nw (.castable zx_I zx_I) U) ∧ (va_Nc zx_S zx_A U ∧ va_Nc zx_S zx_I U)
def zx_E (U : State) : Prop := (zx_C U ∧ zx_D U) ∧ zx_R 147 "there is no such class" U ∧ zx_R 44 "there are 40 lamps" U ∧ zx_R 54 "there are 30 miners" U ∧ zx_R 151 "there is no such miner" U ∧ zx_R 65 "the tally is on the board" U ∧ zx_R 73 "there is no lamp" U ∧ zx_R 83 "the tally is not on the board" U ∧ zx_R 154 "there is no such lamp" U ∧ zx_R 103 "the lamp is not on the rack" U ∧ zx_R 108 "the lamp is not set aside" U ∧ zx_R 115 "hours must be 1 to 100" U
theorem zx_R.warm {k : Nat} {tx : String} {s U : State} (hW : s.WarmedH U.vm) (h : zx_R k tx s) : zx_R k tx U := by
  obtain ⟨sa, h⟩ := h
  exact ⟨sa, vk_R.warm hW h⟩
theorem zx_C.warm {s U : State} (hW : s.WarmedH U.vm) (h : zx_C s) : zx_C U :=
  ⟨⟨va_Nw.warmC hW h.1.1, va_Nw.warmC hW h.1.2.1, va_Nw.warmC hW h.1.2.2⟩, va_Nc.moved hW.alike h.2.1, va_Nc.moved hW.alike h.2.2⟩
theorem zx_E.warm {s U : State} (hW : s.WarmedH U.vm) (h : zx_E s) : zx_E U := by
  obtain ⟨h0, h1, h2, h3, h4, h5, h6, h7, h8, h9, h10, h11⟩ := h
  exact ⟨⟨h0.1.warm hW, h0.2.warm hW⟩, h1.warm hW, h2.warm hW, h3.warm hW, h4.warm hW, h5.warm hW, h6.warm hW, h7.warm hW, h8.warm hW, h9.warm hW, h10.warm hW, h11.warm hW⟩
theorem zx_C.same {s U : State} (hv : U.vm = s.vm) (h : zx_C s) : zx_C U := by
  have ha : s.vm.Alike U.vm := by rw [hv]; exact Vm.Alike.refl s.vm
  exact ⟨⟨va_Nw.same rfl hv.symm h.1.1, va_Nw.same rfl hv.symm h.1.2.1, va_Nw.same rfl hv.symm h.1.2.2⟩, va_Nc.moved ha h.2.1, va_Nc.moved ha h.2.2⟩
theorem zx_R.same {k : Nat} {tx : String} {s U : State} (hv : U.vm = s.vm) (h : zx_R k tx s) : zx_R k tx U := by
  obtain ⟨sa, h⟩ := h
  exact ⟨sa, vk_R.same hv h⟩
theorem zx_E.same {s U : State} (hv : U.vm = s.vm) (h : zx_E s) : zx_E U := by
  obtain ⟨h0, h1, h2, h3, h4, h5, h6, h7, h8, h9, h10, h11⟩ := h
  exact ⟨⟨h0.1.same hv, h0.2.same hv⟩, h1.same hv, h2.same hv, h3.same hv, h4.same hv, h5.same hv, h6.same hv, h7.same hv, h8.same hv, h9.same hv, h10.same hv, h11.same hv⟩
/-- the two statics of Throwable, in H -/
def zx_H (A : Nat → Prop) (U : State) (H : Heap) : Prop := vx_Zq Bundle.tN "UNASSIGNED_STACK" Bundle.steD A U H ∧ vx_Zq Bundle.tN "SUPPRESSED_SENTINEL" Bundle.listD A U H
theorem zx_H.moved {A : Nat → Prop} {u U : State} {H : Heap} (hvm : u.vm.Alike U.vm) (h : zx_H A u H) : zx_H A U H := ⟨vx_Zq.moved hvm h.1, vx_Zq.moved hvm h.2⟩
theorem zx_H.kept {A : Nat → Prop} {U : State} {H H1 : Heap} (h : zx_H A U H) (hq : ∀ a : Nat, a < H.size → ¬ A a → H1[a]? = H[a]?) : zx_H A U H1 := ⟨vx_Zq.kept h.1 hq, vx_Zq.kept h.2 hq⟩
theorem zx_H.narrow {A B : Nat → Prop} {U : State} {H : Heap} (h : zx_H A U H) (hAB : ∀ q, B q → A q) : zx_H B U H := ⟨vx_Zq.narrow h.1 hAB, vx_Zq.narrow h.2 hAB⟩
def zx_Pre (D : va_G) (ty : List (ClassId × FieldType)) (ws : va_W) (sz : Nat) : State → Prop := fun U => zq_Pre D ty ws sz U ∧ zx_H (va_A ws sz) U U.heap ∧ zx_E U
theorem zx_blind {as : List Value} {D : va_G} {ty : List (ClassId × FieldType)} {ws : va_W} {sz : Nat} : FrameBlind (va_Pc as (zx_Pre D ty ws sz)) :=
  fun a U g mk q => by
    obtain ⟨q0, ⟨q1, qP, qK, qD⟩, qH, qE⟩ := q
    exact ⟨q0, ⟨q1, qP, va_K.moved (u := U) (U := U.calling g mk a) (Vm.Alike.refl U.vm) qK, qD⟩, zx_H.moved (u := U) (U := U.calling g mk a) (Vm.Alike.refl U.vm) qH, zx_E.same (s := U) (U := U.calling g mk a) rfl qE⟩
abbrev zx_X (D : va_G) (ty : List (ClassId × FieldType)) (E : String) (ws : va_W) (A : Nat → Prop) (sz : Nat) : String → State → State → Prop := vx_X (fun (_ : Unit) => True) (fun (E1 : String) (_ : Unit) (t : State) => E1 = E ∧ zq_B D ty A ws () t ∧ sz + 1 ≤ t.heap.size) A
abbrev zx_Mv (l : Launch) (y : MethodName) (wsy : List Cond) (rm : Room) (D : va_G) (ty : List (ClassId × FieldType)) (as : List Value) (w0 : va_W) (E : String) (sz : Nat) : Prop :=
  vx_Met l y wsy rm (va_Pc as (zx_Pre D ty w0 sz)) (va_Qv (fun (_ : Unit) => False) (fun _ _ => True) (fun _ => False)) (zx_X D ty E w0 (va_A w0 sz) sz) 1 6 (va_A w0 sz)
abbrev zx_Mi (l : Launch) (y : MethodName) (wsy : List Cond) (rm : Room) (D : va_G) (ty : List (ClassId × FieldType)) (as : List Value) (w0 : va_W) (E : String) (sz : Nat) : Prop :=
  vx_Met l y wsy rm (va_Pc as (zx_Pre D ty w0 sz)) (va_Qi (fun (_ : Int32) (_ : Unit) => False) (fun _ _ => True) (fun _ => False)) (zx_X D ty E w0 (va_A w0 sz) sz) 1 6 (va_A w0 sz)
abbrev zx_Md (l : Launch) (y : MethodName) (wsy : List Cond) (rm : Room) (D : va_G) (ty : List (ClassId × FieldType)) (as : List Value) (w0 : va_W) (E : String) (sz : Nat) : Prop :=
  vx_Met l y wsy rm (va_Pc as (zx_Pre D ty w0 sz)) (va_Qd (fun (_ : UInt64) (_ : Unit) => False) (fun _ _ => True) (fun _ => False)) (zx_X D ty E w0 (va_A w0 sz) sz) 1 6 (va_A w0 sz)
theorem zx_hatA {args : Array Value} {s : State} (h1 : ∀ w ∈ (vx_atS RX3 117 zx_A zx_N).filter goodWord, w.before args s = true) (hE : zx_E s) : ∀ w ∈ vx_atS RX3 117 zx_A zx_N, w.before args s = true := vx_hat (B := [.castable zx_A zx_A, zx_d1, zx_d2, zx_d3]) h1 (by decide +kernel) (vx_c (va_Nw.use rfl hE.1.1.1.1) (vx_c (va_Nw.use rfl hE.1.2.1) (vx_c (va_Nw.use rfl hE.1.2.2.1) (vx_c (va_Nw.use rfl hE.1.2.2.2) vx_n))))
theorem zx_hatS {args : Array Value} {s : State} (h1 : ∀ w ∈ (vx_atS RX3 46 zx_S zx_N).filter goodWord, w.before args s = true) (hE : zx_E s) : ∀ w ∈ vx_atS RX3 46 zx_S zx_N, w.before args s = true := vx_hat (B := [.castable zx_S zx_S, zx_d1, zx_d2, zx_d3]) h1 (by decide +kernel) (vx_c (va_Nw.use rfl hE.1.1.1.2.1) (vx_c (va_Nw.use rfl hE.1.2.1) (vx_c (va_Nw.use rfl hE.1.2.2.1) (vx_c (va_Nw.use rfl hE.1.2.2.2) vx_n))))
theorem zx_hatI {args : Array Value} {s : State} (h1 : ∀ w ∈ (vx_atS RX3 153 zx_I zx_N).filter goodWord, w.before args s = true) (hE : zx_E s) : ∀ w ∈ vx_atS RX3 153 zx_I zx_N, w.before args s = true := vx_hat (B := [.castable zx_I zx_I, zx_d1, zx_d2, zx_d3]) h1 (by decide +kernel) (vx_c (va_Nw.use rfl hE.1.1.1.2.2) (vx_c (va_Nw.use rfl hE.1.2.1) (vx_c (va_Nw.use rfl hE.1.2.2.1) (vx_c (va_Nw.use rfl hE.1.2.2.2) vx_n))))
theorem zx_goodA : ∀ w ∈ Cond.classLink RX3 113 zx_A :: Cond.initialized zx_A :: vx_atS RX3 117 zx_A zx_N, vx_ot w = true := by decide +kernel
theorem zx_goodS : ∀ w ∈ Cond.classLink RX3 42 zx_S :: Cond.initialized zx_S :: vx_atS RX3 46 zx_S zx_N, vx_ot w = true := by decide +kernel
theorem zx_goodI : ∀ w ∈ Cond.classLink RX3 149 zx_I :: Cond.initialized zx_I :: vx_atS RX3 153 zx_I zx_N, vx_ot w = true := by decide +kernel
section ZX
variable {p : Program} {l : Launch} {e : Env} {R : Room} {s : State} {m : MethodId} {args : Array Value} {below : List Frame} {meth : Method} {c : Code} {H : Heap} {locs : List Loc} {cells slots : Nat} {cc : ByteArray} {pc : Nat} {ls : Array Slot} {rest st0 : List Value}
variable {D : va_G} {ty : List (ClassId × FieldType)} {A : Nat → Prop} {H0 : Heap} {ws wc wr ws' : va_W} {y : MethodName} {bytes : ByteArray} {maxL nL n index : Nat} {ret : Option FieldType} {wsy Ts : List Cond} {rm : Room} {own C E : String} {b ci N : Nat} {T : u_T} {fs As : List Value}
/-- thrown here: the world stands as it stood -/
theorem zx_thrown (hP : va_P D vwCl ws H) (hK : va_K D vwCl ty s) (hD : va_D A ws) (hS : va_S A s.heap H locs) : ∀ t : State, s.vm.Alike t.vm → H.size < t.heap.size → (∀ q : Nat, q < H.size → t.heap[q]? = H[q]?) → zx_X D ty E ws A s.heap.size E s t :=
  fun t ha hz hq => ⟨(), trivial, ⟨rfl, ⟨hP.kept (fun k q hk => hq q.1 (vx_lt hP hk)), va_K.moved ha hK, hD⟩, Nat.lt_of_le_of_lt hS.1 hz⟩, Nat.le_trans hS.1 (Nat.le_of_lt hz), fun q h1 h2 => (hq q (Nat.lt_of_lt_of_le h1 hS.1)).trans (hS.2.1 q h1 h2)⟩
theorem zx_went (hP : va_P D vwCl ws H) (hK : va_K D vwCl ty s) (hD : va_D A ws) (hS : va_S A s.heap H locs) (hG : s.heap.size + 1 ≤ H.size) : ∀ t : State, t.heap = H → s.vm.Alike t.vm → zx_X D ty E ws A s.heap.size E s t :=
  fun t ht ha => ⟨(), trivial, ⟨rfl, ⟨by rw [ht]; exact hP, va_K.moved ha hK, hD⟩, by rw [ht]; exact hG⟩, hS.F ht⟩
theorem zx_pre (hK : va_K D vwCl ty s) (hP : va_P D vwCl ws H) (hD : va_D A ws) (hS : va_S A H0 H locs) (hA : ∀ q, H0.size ≤ q → A q) (hH : zx_H A s H) (hE : zx_E s) (isC : List Nat) (hC : isC.map (fun i => ws[i]?) = wc.map some) (hnC : va_nd isC = true) : ∀ U : State, U.heap = H → s.WarmedH U.vm → va_Pc As (zx_Pre D ty wc H.size) As.toArray U :=
  fun U hU hW => ⟨rfl, (zq_pre (As := As) hK hP hD isC hC hnC U hU hW).2, by rw [hU]; exact (hH.moved hW.alike).narrow (va_free hD hS hA isC hC), hE.warm hW⟩
/-- the callee throws: here q is thrown over this frame, the world as it stood -/
theorem zx_cVv {Q : State → Prop} (S : CallFix p m c cc nL s args Ts own) (hM : zx_Mv l y wsy rm D ty (.ref b :: As) wc E H.size) (cw : CallW R s args own C index y bytes maxL ret wsy rm 1 6 n)
    (hK : va_K D vwCl ty s) (hP : va_P D vwCl ws H) (hD : va_D A ws) (hS : va_S A H0 H locs) (hA : ∀ q, H0.size ≤ q → A q) (hH : zx_H A s H) (hE : zx_E s) (isC isR pm : List Nat) (hC : isC.map (fun i => ws[i]?) = wc.map some) (hnC : va_nd isC = true) (hR : isR.map (fun i => ws[i]?) = wr.map some) (hn : va_nd isR = true) (hdis : ∀ i ∈ isR, i ∉ isC)
    (hpm : pm.map (fun i => (wr ++ wc)[i]?) = ws.map some) (hnp : va_nd pm = true) (hc : vwCl[ci]? = some (C, T, N)) (q0 : Nat) (he : wc[q0]? = some (b, .inr (ci, fs))) (hln : As.length = n) (hsz : ls.size = nL) (hst : st0 = As.reverse ++ .ref b :: rest) (hW : (rest.map fun v => v.category).sum ≤ 8) (hdg : decode cc pc = .ok (.invokevirtual index, 3)) (hcs : cells + 1 ≤ R.cells ∧ slots + 6 ≤ R.slots)
    (kx : ∀ (H1 : Heap) (locs1 : List Loc) (q9 : Addr) (ce : Cell), va_P D vwCl ws H1 → va_D A ws → va_S A H0 H1 locs1 → H1[q9]? = some ce → ce.vm = .none → s.vm.findClass E = some ce.cls → H0.size + 1 ≤ H1.size → vx_W p l e R s m args below meth c H1 locs1 (cells + 1) (slots + 6) Q (F0 m pc ls rest) q9) : W p l e R s m args below meth c H locs cells slots Q (F0 m pc ls st0) := by
  have hFc := va_free hD hS hA isC hC
  refine vx_callv (vx_runV (As := As) (rest := rest) S hM cw ⟨zx_blind, va_recv hK (hP.sub isC (zq_fm hC)) hc he, zx_pre hK hP hD hS hA hH hE isC hC hnC⟩ rfl hln hsz hst (lv_room hW) hdg hcs) hS (fun q _ h => h.elim) hFc (fun q _ h => hFc q h) (fun E1 ce q9 u t H1 locs1 ht hvm _ hB hz1 hk1 hS1 hce hcv hcl => ?_) (fun u t H1 locs1 ht hvm hw => hw.elim)
  obtain ⟨rfl, hB, hG9⟩ := hB
  have hG : H0.size + 1 ≤ H1.size := Nat.le_trans (Nat.succ_le_succ hS.1) (by rw [← ht]; exact hG9)
  obtain ⟨h1, h2⟩ := zq_back hP hD hS hA isC isR hC hR hn hdis pm hpm hnp ht hk1 hB
  exact kx H1 locs1 q9 ce h1 h2 hS1 hce hcv hcl hG
theorem zx_cVi {Q : State → Prop} (S : CallFix p m c cc nL s args Ts own) (hM : zx_Mi l y wsy rm D ty (.ref b :: As) wc E H.size) (cw : CallW R s args own C index y bytes maxL ret wsy rm 1 6 n)
    (hK : va_K D vwCl ty s) (hP : va_P D vwCl ws H) (hD : va_D A ws) (hS : va_S A H0 H locs) (hA : ∀ q, H0.size ≤ q → A q) (hH : zx_H A s H) (hE : zx_E s) (isC isR pm : List Nat) (hC : isC.map (fun i => ws[i]?) = wc.map some) (hnC : va_nd isC = true) (hR : isR.map (fun i => ws[i]?) = wr.map some) (hn : va_nd isR = true) (hdis : ∀ i ∈ isR, i ∉ isC)
    (hpm : pm.map (fun i => (wr ++ wc)[i]?) = ws.map some) (hnp : va_nd pm = true) (hc : vwCl[ci]? = some (C, T, N)) (q0 : Nat) (he : wc[q0]? = some (b, .inr (ci, fs))) (hln : As.length = n) (hsz : ls.size = nL) (hst : st0 = As.reverse ++ .ref b :: rest) (hW : (rest.map fun v => v.category).sum ≤ 8) (hdg : decode cc pc = .ok (.invokevirtual index, 3)) (hcs : cells + 1 ≤ R.cells ∧ slots + 6 ≤ R.slots)
    (kx : ∀ (H1 : Heap) (locs1 : List Loc) (q9 : Addr) (ce : Cell), va_P D vwCl ws H1 → va_D A ws → va_S A H0 H1 locs1 → H1[q9]? = some ce → ce.vm = .none → s.vm.findClass E = some ce.cls → H0.size + 1 ≤ H1.size → vx_W p l e R s m args below meth c H1 locs1 (cells + 1) (slots + 6) Q (F0 m pc ls rest) q9) : W p l e R s m args below meth c H locs cells slots Q (F0 m pc ls st0) := by
  have hFc := va_free hD hS hA isC hC
  refine vx_calli (vx_runV (As := As) (rest := rest) S hM cw ⟨zx_blind, va_recv hK (hP.sub isC (zq_fm hC)) hc he, zx_pre hK hP hD hS hA hH hE isC hC hnC⟩ rfl hln hsz hst (lv_room hW) hdg hcs) hS (fun q _ h => h.elim) hFc (fun q _ h => hFc q h) (fun E1 ce q9 u t H1 locs1 ht hvm _ hB hz1 hk1 hS1 hce hcv hcl => ?_) (fun r u t H1 locs1 ht hvm hw => hw.elim)
  obtain ⟨rfl, hB, hG9⟩ := hB
  have hG : H0.size + 1 ≤ H1.size := Nat.le_trans (Nat.succ_le_succ hS.1) (by rw [← ht]; exact hG9)
  obtain ⟨h1, h2⟩ := zq_back hP hD hS hA isC isR hC hR hn hdis pm hpm hnp ht hk1 hB
  exact kx H1 locs1 q9 ce h1 h2 hS1 hce hcv hcl hG
theorem zx_cVd {Q : State → Prop} (S : CallFix p m c cc nL s args Ts own) (hM : zx_Md l y wsy rm D ty (.ref b :: As) wc E H.size) (cw : CallW R s args own C index y bytes maxL ret wsy rm 1 6 n)
    (hK : va_K D vwCl ty s) (hP : va_P D vwCl ws H) (hD : va_D A ws) (hS : va_S A H0 H locs) (hA : ∀ q, H0.size ≤ q → A q) (hH : zx_H A s H) (hE : zx_E s) (isC isR pm : List Nat) (hC : isC.map (fun i => ws[i]?) = wc.map some) (hnC : va_nd isC = true) (hR : isR.map (fun i => ws[i]?) = wr.map some) (hn : va_nd isR = true) (hdis : ∀ i ∈ isR, i ∉ isC)
    (hpm : pm.map (fun i => (wr ++ wc)[i]?) = ws.map some) (hnp : va_nd pm = true) (hc : vwCl[ci]? = some (C, T, N)) (q0 : Nat) (he : wc[q0]? = some (b, .inr (ci, fs))) (hln : As.length = n) (hsz : ls.size = nL) (hst : st0 = As.reverse ++ .ref b :: rest) (hW : (rest.map fun v => v.category).sum ≤ 8) (hdg : decode cc pc = .ok (.invokevirtual index, 3)) (hcs : cells + 1 ≤ R.cells ∧ slots + 6 ≤ R.slots)
    (kx : ∀ (H1 : Heap) (locs1 : List Loc) (q9 : Addr) (ce : Cell), va_P D vwCl ws H1 → va_D A ws → va_S A H0 H1 locs1 → H1[q9]? = some ce → ce.vm = .none → s.vm.findClass E = some ce.cls → H0.size + 1 ≤ H1.size → vx_W p l e R s m args below meth c H1 locs1 (cells + 1) (slots + 6) Q (F0 m pc ls rest) q9) : W p l e R s m args below meth c H locs cells slots Q (F0 m pc ls st0) := by
  have hFc := va_free hD hS hA isC hC
  refine vx_calld (vx_runV (As := As) (rest := rest) S hM cw ⟨zx_blind, va_recv hK (hP.sub isC (zq_fm hC)) hc he, zx_pre hK hP hD hS hA hH hE isC hC hnC⟩ rfl hln hsz hst (lv_room hW) hdg hcs) hS (fun q _ h => h.elim) hFc (fun q _ h => hFc q h) (fun E1 ce q9 u t H1 locs1 ht hvm _ hB hz1 hk1 hS1 hce hcv hcl => ?_) (fun r u t H1 locs1 ht hvm hw => hw.elim)
  obtain ⟨rfl, hB, hG9⟩ := hB
  have hG : H0.size + 1 ≤ H1.size := Nat.le_trans (Nat.succ_le_succ hS.1) (by rw [← ht]; exact hG9)
  obtain ⟨h1, h2⟩ := zq_back hP hD hS hA isC isR hC hR hn hdis pm hpm hnp ht hk1 hB
  exact kx H1 locs1 q9 ce h1 h2 hS1 hce hcv hcl hG
theorem zx_cSv {Q : State → Prop} (S : CallFix p m c cc nL s args Ts own) (hM : zx_Mv l y wsy rm D ty As [] E H.size) (cw : CallB R s args own index y bytes maxL ret wsy rm 1 6 n ∧ (Cond.static y).before args s = true)
    (hK : va_K D vwCl ty s) (hP : va_P D vwCl ws H) (hD : va_D A ws) (hS : va_S A H0 H locs) (hA : ∀ q, H0.size ≤ q → A q) (hH : zx_H A s H) (hE : zx_E s) (hln : As.length = n) (hsz : ls.size = nL) (hst : st0 = As.reverse ++ rest) (hW : (rest.map fun v => v.category).sum ≤ 8) (hdg : decode cc pc = .ok (.invokestatic index, 3)) (hcs : cells + 1 ≤ R.cells ∧ slots + 6 ≤ R.slots)
    (kx : ∀ (H1 : Heap) (locs1 : List Loc) (q9 : Addr) (ce : Cell), va_P D vwCl ws H1 → va_D A ws → va_S A H0 H1 locs1 → H1[q9]? = some ce → ce.vm = .none → s.vm.findClass E = some ce.cls → H0.size + 1 ≤ H1.size → vx_W p l e R s m args below meth c H1 locs1 (cells + 1) (slots + 6) Q (F0 m pc ls rest) q9) : W p l e R s m args below meth c H locs cells slots Q (F0 m pc ls st0) := by
  have hFc : ∀ q, va_A ([] : va_W) H.size q → A q := va_free (wc := []) hD hS hA [] rfl
  refine vx_callv (vx_runS (As := As) (rest := rest) S hM cw ⟨zx_blind, zx_pre (wc := []) hK hP hD hS hA hH hE [] rfl rfl⟩ rfl hln hsz hst (lv_room hW) hdg hcs) hS (fun q _ h => h.elim) hFc (fun q _ h => hFc q h) (fun E1 ce q9 u t H1 locs1 ht hvm _ hB hz1 hk1 hS1 hce hcv hcl => ?_) (fun u t H1 locs1 ht hvm hw => hw.elim)
  obtain ⟨rfl, hB, hG9⟩ := hB
  have hG : H0.size + 1 ≤ H1.size := Nat.le_trans (Nat.succ_le_succ hS.1) (by rw [← ht]; exact hG9)
  have h1 : va_P D vwCl ws H1 := hP.kept (fun k q hk => hk1 q.1 (vx_lt hP hk) (fun h => by
    rcases h with ⟨k, e, h⟩ | h
    · simp at h
    · exact absurd (vx_lt hP hk) (Nat.not_lt.mpr h)))
  exact kx H1 locs1 q9 ce h1 hD hS1 hce hcv hcl hG
/-- not caught here -/
theorem zx_on {Qc : Array Value → State → Outcome → State → Prop} {q9 : Addr} {ce : Cell} (hno : ∀ x ∈ c.exceptionTable.toList, False) (hlocks : meth.locks = false) (hP : va_P D vwCl ws H) (hK : va_K D vwCl ty s) (hD : va_D A ws) (hS : va_S A s.heap H locs) (hce : H[q9]? = some ce) (hcv : ce.vm = .none) (hcl : s.vm.findClass E = some ce.cls) (hG : s.heap.size + 1 ≤ H.size) (hc : cells ≤ 1) (hs : slots ≤ 6) :
    vx_W p l e R s m args below meth c H locs cells slots (vx_MQ below Qc (zx_X D ty E ws A s.heap.size) args s 1 6 A) (F0 m pc ls rest) q9 :=
  vx_out (fun x hx => (hno x hx).elim) hlocks hce hcv hcl (zx_went hP hK hD hS hG) hS.2.2 hc hs
end ZX
theorem la_fault_w {le ki : Nat → Int32} {ca : Nat → UInt64} {j : Nat} : la_fault (upd le j 0) ki ca j = 0 ↔ la_weak ki ca j = false := by
  unfold la_fault
  rw [if_pos pk_us]
  cases la_weak ki ca j with
  | false => exact iff_of_true rfl rfl
  | true => exact iff_of_false (by decide) (by decide)
theorem in_b_k {k : Int32} (h : in_b k 0 2 = true) : ¬ k < 0 ∧ k < 3 := by
  obtain ⟨j, hj, rfl⟩ := in_b_3 h
  exact ⟨nI_pos (by omega), (nI_ltI (b := 3) (by omega) (by decide)).mpr hj⟩
theorem in_b_kn {k : Int32} (h : in_b k 0 2 = false) : k < 0 ∨ ¬ k < 3 := by
  by_cases h1 : k < 0
  · exact Or.inl h1
  · refine Or.inr (fun h2 => ?_)
    obtain ⟨j, hj, rfl⟩ := nI_of h1
    have h3 := (nI_ltI (b := 3) hj (by decide)).mp h2
    have h4 : in_b (nI j) 0 (nI 3 - 1) = true := in_b_ok h3 (by decide)
    rw [show nI 3 - 1 = 2 from rfl] at h4
    rw [h4] at h
    cases h
theorem in_b_n {v : Int32} {n : Nat} (hn : n < 2 ^ 31) (h : in_b v 0 (nI n - 1) = false) : v < 0 ∨ ¬ v < nI n := by
  by_cases h1 : v < 0
  · exact Or.inl h1
  · refine Or.inr (fun h2 => ?_)
    obtain ⟨j, hj, rfl⟩ := nI_of h1
    rw [in_b_ok ((nI_ltI hj hn).mp h2) hn] at h
    cases h
abbrev zq_Sv (l : Launch) (y : MethodName) (wsy : List Cond) (rm : Room) (as : List Value) : Prop :=
  Met l y wsy rm (va_Pc as (fun _ => True)) (va_Qv (fun (_ : Unit) => True) (fun _ _ => True) (fun _ => False)) 0 0 (fun _ => False)
theorem zq_cSv {p : Program} {l : Launch} {e : Env} {R : Room} {s : State} {m : MethodId} {args : Array Value} {below : List Frame} {meth : Method} {c : Code} {H : Heap} {locs : List Loc} {cells slots : Nat} {Q : State → Prop} {cc : ByteArray} {pc : Nat} {ls : Array Slot} {rest st0 : List Value}
    {D : va_G} {A : Nat → Prop} {H0 : Heap} {ws : va_W} {y : MethodName} {bytes : ByteArray} {maxL nL n index : Nat} {ret : Option FieldType} {wsy Ts : List Cond} {rm : Room} {own : String} {As : List Value}
    (S : CallFix p m c cc nL s args Ts own) (hM : zq_Sv l y wsy rm As) (cw : CallB R s args own index y bytes maxL ret wsy rm 0 0 n ∧ (Cond.static y).before args s = true)
    (hP : va_P D vwCl ws H) (hS : va_S A H0 H locs) (hln : As.length = n) (hsz : ls.size = nL) (hst : st0 = As.reverse ++ rest) (hW : (rest.map fun v => v.category).sum ≤ 8) (hdg : decode cc pc = .ok (.invokestatic index, 3)) (hcs : cells ≤ R.cells ∧ slots ≤ R.slots)
    (kk : ∀ (H1 : Heap) (locs1 : List Loc), va_P D vwCl ws H1 → va_S A H0 H1 locs1 → W p l e R s m args below meth c H1 locs1 cells slots Q (F0 m (pc + 3) ls rest)) : W p l e R s m args below meth c H locs cells slots Q (F0 m pc ls st0) := by
  refine va_callv (va_runS (As := As) (rest := rest) S hM cw ⟨fun a U g mk q => q, fun U hU hW => ⟨rfl, trivial⟩⟩ rfl hln hsz hst (lv_room hW) hdg hcs) hS (fun q _ h => h.elim) (fun q h => h.elim) (fun u t H1 locs1 ht hvm hw hB hz1 hk1 hS1 => ?_)
  exact kk H1 locs1 (hP.kept (fun k q hk => hk1 q.1 (vx_lt hP hk) (fun h => h))) hS1
