section LQ
variable {p : Program} {l : Launch} {e : Env} {R : Room} {s : State} {m : MethodId} {args : Array Value} {below : List Frame} {meth : Method} {c : Code} {H : Heap} {locs : List Loc} {cells slots : Nat} {Q : State → Prop} {cc : ByteArray} {pc : Nat} {ls : Array Slot} {rest st0 : List Value}
variable {D : va_G} {ty : List (ClassId × FieldType)} {A : Nat → Prop} {H0 : Heap} {ws wc wr w1 ws' : va_W} {y : MethodName} {bytes : ByteArray} {maxL nL n index : Nat} {ret : Option FieldType} {hh : List (Nat × Nat × Nat × Nat)} {wsy Ts : List Cond} {rm : Room} {own : String} {As : List Value}
/-- a static call of a method with a table, on some of the cells -/
theorem zq_cWi {res : Int32} (S : CallFix p m c cc nL s args Ts own) (hM : zq_Mi l y wsy rm D ty As wc res w1 H.size) (cw : vx_CSW R s args own index y bytes maxL ret hh wsy rm 0 0 n)
    (hK : va_K D vwCl ty s) (hP : va_P D vwCl ws H) (hD : va_D A ws) (hS : va_S A H0 H locs) (hA : ∀ q, H0.size ≤ q → A q) (isC isR pm : List Nat) (hC : isC.map (fun i => ws[i]?) = wc.map some) (hnC : va_nd isC = true) (hR : isR.map (fun i => ws[i]?) = wr.map some) (hn : va_nd isR = true) (hdis : ∀ i ∈ isR, i ∉ isC)
    (hpm : pm.map (fun i => (wr ++ w1)[i]?) = ws'.map some) (hnp : va_nd pm = true) (hln : As.length = n) (hsz : ls.size = nL) (hst : st0 = As.reverse ++ rest) (hW : (rest.map fun v => v.category).sum ≤ 8) (hdg : decode cc pc = .ok (.invokestatic index, 3)) (hcs : cells ≤ R.cells ∧ slots ≤ R.slots)
    (kk : ∀ (H1 : Heap) (locs1 : List Loc), va_P D vwCl ws' H1 → va_D A ws' → va_S A H0 H1 locs1 → W p l e R s m args below meth c H1 locs1 cells slots Q (F0 m (pc + 3) ls (.int res :: rest))) : W p l e R s m args below meth c H locs cells slots Q (F0 m pc ls st0) := by
  have hFc := va_free hD hS hA isC hC
  refine va_calli (vx_runSW (As := As) (rest := rest) S hM cw ⟨zq_blind, zq_pre hK hP hD isC hC hnC⟩ rfl hln hsz hst (lv_room hW) hdg hcs) hS (fun q _ h => hFc q h) hFc (fun r u t H1 locs1 ht hvm hw hB hz1 hk1 hS1 => ?_)
  subst hw
  obtain ⟨h1, h2⟩ := zq_back hP hD hS hA isC isR hC hR hn hdis pm hpm hnp ht hk1 hB
  exact kk H1 locs1 h1 h2 hS1
theorem zl_cWi {res : Int32} (S : CallFix p m c cc nL s args Ts own) (hM : zl_M l y wsy rm D ty As wc res H.size) (cw : vx_CSW R s args own index y bytes maxL ret hh wsy rm 1 6 n)
    (hK : va_K D vwCl ty s) (hP : va_P D vwCl ws H) (hD : va_D A ws) (hS : va_S A H0 H locs) (hA : ∀ q, H0.size ≤ q → A q) (hH : zx_H A s H) (hE : zx_E s) (isC isR pm : List Nat) (hC : isC.map (fun i => ws[i]?) = wc.map some) (hnC : va_nd isC = true) (hR : isR.map (fun i => ws[i]?) = wr.map some) (hn : va_nd isR = true) (hdis : ∀ i ∈ isR, i ∉ isC)
    (hpm : pm.map (fun i => (wr ++ wc)[i]?) = ws.map some) (hnp : va_nd pm = true) (hln : As.length = n) (hsz : ls.size = nL) (hst : st0 = As.reverse ++ rest) (hW : (rest.map fun v => v.category).sum ≤ 8) (hdg : decode cc pc = .ok (.invokestatic index, 3)) (hcs : cells + 1 ≤ R.cells ∧ slots + 6 ≤ R.slots)
    (kk : ∀ (H1 : Heap) (locs1 : List Loc), va_P D vwCl ws H1 → va_D A ws → va_S A H0 H1 locs1 → W p l e R s m args below meth c H1 locs1 (cells + 1) (slots + 6) Q (F0 m (pc + 3) ls (.int res :: rest))) : W p l e R s m args below meth c H locs cells slots Q (F0 m pc ls st0) := by
  have hFc := va_free hD hS hA isC hC
  refine va_calli (vx_runSW (As := As) (rest := rest) S hM cw ⟨zx_blind, zx_pre hK hP hD hS hA hH hE isC hC hnC⟩ rfl hln hsz hst (lv_room hW) hdg hcs) hS (fun q _ h => hFc q h) hFc (fun r u t H1 locs1 ht hvm hw hB hz1 hk1 hS1 => ?_)
  subst hw
  obtain ⟨h1, h2⟩ := zq_back hP hD hS hA isC isR hC hR hn hdis pm hpm hnp ht hk1 hB
  exact kk H1 locs1 h1 h2 hS1
/-- the call's word out of the script -/
theorem lq_rd {sb L i : Nat} {xs : Nat → Int32} {V : Int32} (hx : p.tables.exec = Jvm.exec) (hb : c.code = cc) (d0 : decode cc pc = .ok (.aload_n 0, 1)) (d1 : decode cc (pc + 1) = .ok (.iload 5, 2)) (d3 : decode cc (pc + 1 + 2) = .ok (.iconst 1, 1)) (d4 : decode cc (pc + 1 + 2 + 1) = .ok (.iadd, 1)) (d5 : decode cc (pc + 1 + 2 + 1 + 1) = .ok (.iaload, 1))
    (hX : va_X sb L xs s H0) (hbl : sb < H0.size) (hbA : ¬ A sb) (hS : va_S A H0 H locs) (h0 : ls[0]? = some (.val (.ref sb))) (h5 : ls[5]? = some (.val (.int (nI (2 * i))))) (hi : 2 * i + 1 < L) (hL : L ≤ 1024) (hv : xs (2 * i + 1) = V)
    (k : W p l e R s m args below meth c H locs cells slots Q (F0 m (pc + 6) ls (.int V :: rest))) : W p l e R s m args below meth c H locs cells slots Q (F0 m pc ls rest) := by
  refine lv_aload_n hx hb d0 rfl h0 ?_
  refine lv_iload hx hb d1 h5 ?_
  refine lv_iconst (v := 1) hx hb d3 (by decide) ?_
  refine lv_iadd hx hb d4 ?_
  rw [nI_1]
  refine va_sld hx hb hX hbl hbA hS (vp_in_nI hi (by omega)) d5 ?_
  rw [nI_clamp (by omega), hv]
  exact k
theorem lq_lald (hx : p.tables.exec = Jvm.exec) (hb : c.code = cc) (hK : va_K D vwCl ty s) (hP : va_P D vwCl ws H) (q0 t0 : Nat) {o : Nat} {cA : ClassId} {f : Nat → Int64} {x : Int64} (ha : ws[q0]? = some (o, .inl (cA, 1, .inr (.inl (vp_updL f 0 x))))) (ht : ty[t0]? = some (cA, .long)) (hdg : decode cc pc = .ok (.laload, 1))
    (k : W p l e R s m args below meth c H locs cells slots Q (F0 m (pc + 1) ls (.long x :: rest))) : W p l e R s m args below meth c H locs cells slots Q (F0 m pc ls (.int 0 :: .ref o :: rest)) :=
  va_lald hx hb hK hP q0 t0 ha ht (vp_in_nI (n := 0) (by decide) (by decide)) hdg (by
    rw [show vp_updL f 0 x (0 : Int32).toNatClampNeg = x from rfl]
    exact k)
theorem lq_dald (hx : p.tables.exec = Jvm.exec) (hb : c.code = cc) (hK : va_K D vwCl ty s) (hP : va_P D vwCl ws H) (q0 t0 : Nat) {o : Nat} {cA : ClassId} {f : Nat → UInt64} {x : UInt64} (ha : ws[q0]? = some (o, .inl (cA, 1, .inr (.inr (.inr (.inl (vf_upd f 0 x))))))) (ht : ty[t0]? = some (cA, .double)) (hdg : decode cc pc = .ok (.daload, 1))
    (k : W p l e R s m args below meth c H locs cells slots Q (F0 m (pc + 1) ls (.double x :: rest))) : W p l e R s m args below meth c H locs cells slots Q (F0 m pc ls (.int 0 :: .ref o :: rest)) :=
  va_dald hx hb hK hP q0 t0 ha ht (vp_in_nI (n := 0) (by decide) (by decide)) hdg (by
    rw [show vf_upd f 0 x (0 : Int32).toNatClampNeg = x from rfl]
    exact k)
theorem lq_lcmp (hx : p.tables.exec = Jvm.exec) (hb : c.code = cc) {x y : Int64} (hxy : x = y) (hdg : decode cc pc = .ok (.lcmp, 1))
    (k : W p l e R s m args below meth c H locs cells slots Q (F0 m (pc + 1) ls (.int 0 :: rest))) : W p l e R s m args below meth c H locs cells slots Q (F0 m pc ls (.long y :: .long x :: rest)) := by
  subst hxy
  intro T hT X
  obtain ⟨t, a, b⟩ := k T hT X
  refine ⟨t, ?_, b⟩
  have h1 : ¬ x < x := fun q => Int64.lt_irrefl q
  jvm_step X.here [X.here.top, hx, hb, hdg, h1]
  exact a
end LQ
theorem lq_dself {x : UInt64} (h : zn_p x) : Op.cmpValue (FP.dcmp x x) CmpOp.l = 0 := by
  have n1 := fz_ne (zn_le h)
  rcases fz_cmp3 n1 n1 with ⟨g, e⟩ | ⟨g, e⟩ | ⟨g, e⟩
  · exact absurd g (Int.lt_irrefl _)
  · rw [e]
    decide +kernel
  · exact absurd g (Int.lt_irrefl _)
theorem lq_mend0 {b : Bool} (h : zb (!b) = 0) : (if b = true then (0 : Int64) else 1) = 0 := by
  cases b with
  | true => rfl
  | false => exact absurd h (by decide)
theorem lq_mend1 {b : Bool} (h : ¬ zb (!b) = 0) : (if b = true then (0 : Int64) else 1) = 1 := by
  cases b with
  | true => exact absurd rfl h
  | false => rfl
