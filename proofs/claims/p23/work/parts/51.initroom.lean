/-- the nest's links of the room's constructor -/
def zn_W (U : State) : Prop := va_Nw (.methodLinkNest RX3 9 yX1_init RX3) U ∧ va_Nw (.methodLinkNest RX3 18 yX2_init RX3) U ∧ va_Nw (.methodLinkNest RX3 25 yX0_init RX3) U
theorem zn_W.warm {s U : State} (hW : s.WarmedH U.vm) (h : zn_W s) : zn_W U := ⟨va_Nw.warmM hW h.1, va_Nw.warmM hW h.2.1, va_Nw.warmM hW h.2.2⟩
theorem zn_W.same {s U : State} (hv : U.vm = s.vm) (h : zn_W s) : zn_W U := ⟨va_Nw.same rfl hv.symm h.1, va_Nw.same rfl hv.symm h.2.1, va_Nw.same rfl hv.symm h.2.2⟩
section ZI
variable {p : Program} {l : Launch} {e : Env} {R : Room} {s : State} {m : MethodId} {args : Array Value} {below : List Frame} {meth : Method} {c : Code} {H : Heap} {locs : List Loc} {cells slots : Nat} {Q : State → Prop} {cc : ByteArray} {pc : Nat} {ls : Array Slot} {rest st0 : List Value}
variable {D : va_G} {ty : List (ClassId × FieldType)} {A : Nat → Prop} {H0 : Heap} {ws wc wr : va_W} {y : MethodName} {bytes : ByteArray} {maxL nL n index mc ms : Nat} {wsy Ts : List Cond} {rm : Room} {own host : String} {b : Nat}
theorem zq_cIN {w1 : (Nat → Nat) → va_W} {px : (Nat → Nat) → Prop} (S : CallFix p m c cc nL s args Ts own) (hM : Met l y wsy rm (va_Pc [.ref b] (zq_Pre D ty wc H.size)) (va_Qv px (fun u t => zq_B D ty (va_A wc H.size) (w1 u) () t) (va_A wc H.size)) mc ms (va_A wc H.size))
    (cw : va_CN R s args own index y host bytes maxL none wsy rm mc ms 0 ∧ y.name = "<init>" ∧ (Cond.instanceMethod y).before args s = true)
    (hK : va_K D vwCl ty s) (hP : va_P D vwCl ws H) (hD : va_D A ws) (hS : va_S A H0 H locs) (hA : ∀ q, H0.size ≤ q → A q) (isC isR : List Nat) (hC : isC.map (fun i => ws[i]?) = wc.map some) (hnC : va_nd isC = true) (hR : isR.map (fun i => ws[i]?) = wr.map some) (hn : va_nd isR = true) (hdis : ∀ i ∈ isR, i ∉ isC)
    (hsz : ls.size = nL) (hst : st0 = .ref b :: rest) (hW : (rest.map fun v => v.category).sum ≤ 8) (hdg : decode cc pc = .ok (.invokespecial index, 3)) (hcs : cells + mc ≤ R.cells ∧ slots + ms ≤ R.slots)
    (kk : ∀ (u : Nat → Nat) (H1 : Heap) (locs1 : List Loc), px u → va_P D vwCl (wr ++ w1 u) H1 → va_D A (wr ++ w1 u) → va_S A H0 H1 locs1 → W p l e R s m args below meth c H1 locs1 (cells + mc) (slots + ms) Q (F0 m (pc + 3) ls rest)) : W p l e R s m args below meth c H locs cells slots Q (F0 m pc ls st0) := by
  have hFc := va_free hD hS hA isC hC
  refine va_callv (va_runIN (As := []) (rest := rest) S hM cw ⟨zq_blind, zq_pre hK hP hD isC hC hnC⟩ rfl rfl hsz hst (lv_room hW) hdg hcs) hS (fun q _ h => hFc q h) hFc (fun u t H1 locs1 ht hvm hw hB hz1 hk1 hS1 => ?_)
  obtain ⟨hP1, -, hD1⟩ := hB
  rw [ht] at hP1
  obtain ⟨hP2, hD2⟩ := va_join (wr := wr) (w1 := w1 u) hP hD isC isR hC hR hn hdis hk1 hFc hP1 hD1
  exact kk u H1 locs1 hw hP2 hD2 hS1
end ZI
set_option maxHeartbeats 4000000 in
set_option maxRecDepth 100000 in
theorem c_X3_init (l : Launch) (dC : Nat → ClassId) (dI : Nat → Nat → Nat) (cI cZ cD : ClassId) (q : Nat) (sz : Nat) : Met l yX3_init wsX3_init ({ frames := 2, cells := 14, slots := 434, locals := 32 } : Room) (va_Pc [.ref q] (fun U => zq_Pre (dC, dI) (zq_T cI cZ cD) [(q, .inr (3, [.null, .null, .null, .int 0]))] sz U ∧ zn_W U)) (va_Qv (fun u : Nat → Nat => u 0 = q) (fun u t => zq_B (dC, dI) (zq_T cI cZ cD) (va_A [(q, .inr (3, [.null, .null, .null, .int 0]))] sz) (wRo u cI cZ cD (fun _ => 0) (fun _ => 0) (fun _ => 0) (fun _ => 0) (fun _ => 0) (fun _ => 0) (nI 0) (fun _ => 0) (fun _ => 0) (fun _ => 0) (fun _ => 0) (nI 0) (nI 0) (fun _ => 0) (nI 0)) () t) (va_A [(q, .inr (3, [.null, .null, .null, .int 0]))] sz)) 14 434 (va_A [(q, .inr (3, [.null, .null, .null, .int 0]))] sz) := by
  refine Met.ofW (cc := cX3_init) (maxL := 1) (ret := none) (by decide) rfl ?_
  intro p e s m args below meth c s₁ B hml hv
  obtain ⟨rfl, ⟨hsz, hP, hK, hD0⟩, hN1, hN2, hN3⟩ := hv
  have hx := B.exec
  have hb := B.bytes
  have hr := B.returns
  have hts := atoms_spec (ws := wsX3_init) B.pre
  have hown : s.vm.findClass RX3 = some m.cls := findClass_of_methodNamed B.named
  have hlocks := B.notSynchronized
  have hin : meth.name = "<init>" := (name_of_methodNamed B.named B.method).1
  subst hsz
  have hD := hD0.self (sz := s.heap.size)
  generalize hAe : va_A [(q, .inr (3, [.null, .null, .null, .int 0]))] s.heap.size = A at hD ⊢
  have hA : ∀ q : Nat, s.heap.size ≤ q → A q := fun q h => by rw [← hAe]; exact Or.inr h
  have hS : va_S A s.heap s.heap [] := va_S.rf
  have hl := lv_entry ([.ref q]) (n := 1) (Nat.le_of_ble_eq_true rfl)
  rw [lg_entry_eq]
  generalize (lg_sl ([.ref q]) ++ List.replicate (1 - (lg_sl ([.ref q])).length) Slot.unset).toArray = ls at hl ⊢
  have hl : lv_has ls 1 [(0, .ref q)] := hl
  have hin0 : ∀ w ∈ wsX00, w ∈ wsX3_init := by decide +kernel
  have hin1 : ∀ w ∈ wsX10, w ∈ wsX3_init := by decide +kernel
  have hin2 : ∀ w ∈ wsX20, w ∈ wsX3_init := by decide +kernel
  have hin3 : ∀ w ∈ wsX30, w ∈ wsX3_init := by decide +kernel
  refine lv_aload_n hx hb dX3_init_0 rfl (lv_at hl 0 rfl) ?_
  refine W.objInit hx hb hown (hts (.methodLink RX3 1 objectInit) (by decide +kernel)) (hts (.instanceMethod objectInit) (by decide +kernel)) (hts (.code objectInit ⟨#[0xb1]⟩ 1 none) (by decide +kernel)) rfl (by rw [hml]; exact hl.1) rfl dX3_init_1 (Nat.le_of_ble_eq_true rfl) (Nat.le_of_ble_eq_true rfl) ?_
  refine W.eq (g2 := F0 m 4 ls []) rfl ?_
  refine lv_aload_n hx hb dX3_init_4 rfl (lv_at hl 0 rfl) ?_
  refine va_new (ci := 1) (fs := [.null, .null, .null, .null, .null, .null, .int 0]) (C := RX1) (T := TX1) (N := 7) hx hb hts hin1 tyX1 tyX1_ok hown (hts (.classLink RX3 7 RX1) (by decide +kernel)) (hts (.instantiable RX1 7) (by decide +kernel)) (hts (.initialized RX1) (by decide +kernel)) hK hP hD hS hA rfl (fun j hj => by rcases (show j = 0 ∨ j = 1 ∨ j = 2 ∨ j = 3 ∨ j = 4 ∨ j = 5 ∨ j = 6 by omega) with rfl | rfl | rfl | rfl | rfl | rfl | rfl <;> rfl) (Nat.le_of_ble_eq_true rfl) (Nat.le_of_ble_eq_true rfl) dX3_init_5 (fun q1 H hP hD hS => ?_)
  have hP : va_P (dC, dI) vwCl ([(q, .inr (3, [.null, .null, .null, .int 0]))] ++ [(q1, .inr (1, [.null, .null, .null, .null, .null, .null, .int 0]))]) H := hP
  have hD : va_D A ([(q, .inr (3, [.null, .null, .null, .int 0]))] ++ [(q1, .inr (1, [.null, .null, .null, .null, .null, .null, .int 0]))]) := hD
  refine lv_dup hx hb dX3_init_8 rfl ?_
  refine zq_cIN (rest := [.ref q1, .ref q]) (wc := [(q1, .inr (1, [.null, .null, .null, .null, .null, .null, .int 0]))]) (wr := [(q, .inr (3, [.null, .null, .null, .int 0]))]) (w1 := fun u1 => (wLa u1 cI cZ cD (fun _ => 0) (fun _ => 0) (fun _ => 0) (fun _ => 0) (fun _ => 0) (fun _ => 0) (nI 0))) ⟨hx, hb, hml, hown, hts⟩ (c_X1_init l dC dI cI cZ cD q1 H.size) ⟨va_cnB (host := RX3) 0 hts gX3_init_X1_init_n9 rfl rfl rfl hN1 (hts (.initialized RX1) (by decide +kernel)) (by decide +kernel) ⟨(Nat.le_of_ble_eq_true rfl), (Nat.le_of_ble_eq_true rfl)⟩, rfl, hts (.instanceMethod yX1_init) (by decide +kernel)⟩ hK hP hD hS hA [1] [0] rfl rfl rfl rfl (by decide) hl.1 rfl (Nat.le_of_ble_eq_true rfl) dX3_init_9 ⟨(Nat.le_of_ble_eq_true rfl), (Nat.le_of_ble_eq_true rfl)⟩ (fun u1 H locs hu hP hD hS => ?_)
  have hu : u1 1 = q1 := hu
  rw [← hu]
  refine va_putF (D := (dC, dI)) (ci := 3) (v := .ref (u1 1)) (ty := .object "LampRoom$Lamps") (C := RX3) (T := TX3) (N := 4) hx hb hts hin3 tyX3 tyX3_ok nmX3 hown hK hP hD hS 0 rfl rfl 0 (by decide) (hts (.fieldLink RX3 10 "LampRoom" "lamps" "LLampRoom$Lamps;") (by decide +kernel)) (fun _ h9 => h9) rfl hin rfl (by decide +kernel) rfl rfl (Nat.le_of_ble_eq_true rfl) dX3_init_12 (fun H locs hP hD hS => ?_)
  have hP : va_P (dC, dI) vwCl ([(q, .inr (3, [.ref (u1 1), .null, .null, .int 0]))] ++ (wLa u1 cI cZ cD (fun _ => 0) (fun _ => 0) (fun _ => 0) (fun _ => 0) (fun _ => 0) (fun _ => 0) (nI 0))) H := hP
  have hD : va_D A ([(q, .inr (3, [.ref (u1 1), .null, .null, .int 0]))] ++ (wLa u1 cI cZ cD (fun _ => 0) (fun _ => 0) (fun _ => 0) (fun _ => 0) (fun _ => 0) (fun _ => 0) (nI 0))) := hD
  refine lv_aload_n hx hb dX3_init_15 rfl (lv_at hl 0 rfl) ?_
  refine va_new (ci := 2) (fs := [.null, .null, .null, .null, .int 0, .int 0]) (C := RX2) (T := TX2) (N := 6) hx hb hts hin2 tyX2 tyX2_ok hown (hts (.classLink RX3 16 RX2) (by decide +kernel)) (hts (.instantiable RX2 6) (by decide +kernel)) (hts (.initialized RX2) (by decide +kernel)) hK hP hD hS hA rfl (fun j hj => by rcases (show j = 0 ∨ j = 1 ∨ j = 2 ∨ j = 3 ∨ j = 4 ∨ j = 5 by omega) with rfl | rfl | rfl | rfl | rfl | rfl <;> rfl) (Nat.le_of_ble_eq_true rfl) (Nat.le_of_ble_eq_true rfl) dX3_init_16 (fun q2 H hP hD hS => ?_)
  have hP : va_P (dC, dI) vwCl (([(q, .inr (3, [.ref (u1 1), .null, .null, .int 0]))] ++ (wLa u1 cI cZ cD (fun _ => 0) (fun _ => 0) (fun _ => 0) (fun _ => 0) (fun _ => 0) (fun _ => 0) (nI 0))) ++ [(q2, .inr (2, [.null, .null, .null, .null, .int 0, .int 0]))]) H := hP
  have hD : va_D A (([(q, .inr (3, [.ref (u1 1), .null, .null, .int 0]))] ++ (wLa u1 cI cZ cD (fun _ => 0) (fun _ => 0) (fun _ => 0) (fun _ => 0) (fun _ => 0) (fun _ => 0) (nI 0))) ++ [(q2, .inr (2, [.null, .null, .null, .null, .int 0, .int 0]))]) := hD
  refine lv_dup hx hb dX3_init_19 rfl ?_
  refine zq_cIN (rest := [.ref q2, .ref q]) (wc := [(q2, .inr (2, [.null, .null, .null, .null, .int 0, .int 0]))]) (wr := ([(q, .inr (3, [.ref (u1 1), .null, .null, .int 0]))] ++ (wLa u1 cI cZ cD (fun _ => 0) (fun _ => 0) (fun _ => 0) (fun _ => 0) (fun _ => 0) (fun _ => 0) (nI 0)))) (w1 := fun u2 => (wTa u2 cI (fun _ => 0) (fun _ => 0) (fun _ => 0) (fun _ => 0) (nI 0) (nI 0))) ⟨hx, hb, hml, hown, hts⟩ (c_X2_init l dC dI cI cZ cD q2 H.size) ⟨va_cnB (host := RX3) 0 hts gX3_init_X2_init_n18 rfl rfl rfl hN2 (hts (.initialized RX2) (by decide +kernel)) (by decide +kernel) ⟨(Nat.le_of_ble_eq_true rfl), (Nat.le_of_ble_eq_true rfl)⟩, rfl, hts (.instanceMethod yX2_init) (by decide +kernel)⟩ hK hP hD hS hA [8] [0, 1, 2, 3, 4, 5, 6, 7] rfl rfl rfl rfl (by decide) hl.1 rfl (Nat.le_of_ble_eq_true rfl) dX3_init_20 ⟨(Nat.le_of_ble_eq_true rfl), (Nat.le_of_ble_eq_true rfl)⟩ (fun u2 H locs hu hP hD hS => ?_)
  have hu : u2 8 = q2 := hu
  rw [← hu]
  refine va_putF (D := (dC, dI)) (ci := 3) (v := .ref (u2 8)) (ty := .object "LampRoom$Tallies") (C := RX3) (T := TX3) (N := 4) hx hb hts hin3 tyX3 tyX3_ok nmX3 hown hK hP hD hS 0 rfl rfl 1 (by decide) (hts (.fieldLink RX3 19 "LampRoom" "tallies" "LLampRoom$Tallies;") (by decide +kernel)) (fun _ h9 => h9) rfl hin rfl (by decide +kernel) rfl rfl (Nat.le_of_ble_eq_true rfl) dX3_init_23 (fun H locs hP hD hS => ?_)
  have hP : va_P (dC, dI) vwCl (([(q, .inr (3, [.ref (u1 1), .ref (u2 8), .null, .int 0]))] ++ (wLa u1 cI cZ cD (fun _ => 0) (fun _ => 0) (fun _ => 0) (fun _ => 0) (fun _ => 0) (fun _ => 0) (nI 0))) ++ (wTa u2 cI (fun _ => 0) (fun _ => 0) (fun _ => 0) (fun _ => 0) (nI 0) (nI 0))) H := hP
  have hD : va_D A (([(q, .inr (3, [.ref (u1 1), .ref (u2 8), .null, .int 0]))] ++ (wLa u1 cI cZ cD (fun _ => 0) (fun _ => 0) (fun _ => 0) (fun _ => 0) (fun _ => 0) (fun _ => 0) (nI 0))) ++ (wTa u2 cI (fun _ => 0) (fun _ => 0) (fun _ => 0) (fun _ => 0) (nI 0) (nI 0))) := hD
  refine lv_aload_n hx hb dX3_init_26 rfl (lv_at hl 0 rfl) ?_
  refine va_new (ci := 0) (fs := [.null]) (C := RX0) (T := TX0) (N := 1) hx hb hts hin0 tyX0 tyX0_ok hown (hts (.classLink RX3 23 RX0) (by decide +kernel)) (hts (.instantiable RX0 1) (by decide +kernel)) (hts (.initialized RX0) (by decide +kernel)) hK hP hD hS hA rfl (fun j hj => by rcases (show j = 0 by omega) with rfl <;> rfl) (Nat.le_of_ble_eq_true rfl) (Nat.le_of_ble_eq_true rfl) dX3_init_27 (fun q0 H hP hD hS => ?_)
  have hP : va_P (dC, dI) vwCl ((([(q, .inr (3, [.ref (u1 1), .ref (u2 8), .null, .int 0]))] ++ (wLa u1 cI cZ cD (fun _ => 0) (fun _ => 0) (fun _ => 0) (fun _ => 0) (fun _ => 0) (fun _ => 0) (nI 0))) ++ (wTa u2 cI (fun _ => 0) (fun _ => 0) (fun _ => 0) (fun _ => 0) (nI 0) (nI 0))) ++ [(q0, .inr (0, [.null]))]) H := hP
  have hD : va_D A ((([(q, .inr (3, [.ref (u1 1), .ref (u2 8), .null, .int 0]))] ++ (wLa u1 cI cZ cD (fun _ => 0) (fun _ => 0) (fun _ => 0) (fun _ => 0) (fun _ => 0) (fun _ => 0) (nI 0))) ++ (wTa u2 cI (fun _ => 0) (fun _ => 0) (fun _ => 0) (fun _ => 0) (nI 0) (nI 0))) ++ [(q0, .inr (0, [.null]))]) := hD
  refine lv_dup hx hb dX3_init_30 rfl ?_
  refine zq_cIN (rest := [.ref q0, .ref q]) (wc := [(q0, .inr (0, [.null]))]) (wr := (([(q, .inr (3, [.ref (u1 1), .ref (u2 8), .null, .int 0]))] ++ (wLa u1 cI cZ cD (fun _ => 0) (fun _ => 0) (fun _ => 0) (fun _ => 0) (fun _ => 0) (fun _ => 0) (nI 0))) ++ (wTa u2 cI (fun _ => 0) (fun _ => 0) (fun _ => 0) (fun _ => 0) (nI 0) (nI 0)))) (w1 := fun u3 => (wAl u3 cI (fun _ => 0))) ⟨hx, hb, hml, hown, hts⟩ (c_X0_init l dC dI cI cZ cD q0 H.size) ⟨va_cnB (host := RX3) 0 hts gX3_init_X0_init_n25 rfl rfl rfl hN3 (hts (.initialized RX0) (by decide +kernel)) (by decide +kernel) ⟨(Nat.le_of_ble_eq_true rfl), (Nat.le_of_ble_eq_true rfl)⟩, rfl, hts (.instanceMethod yX0_init) (by decide +kernel)⟩ hK hP hD hS hA [13] [0, 1, 2, 3, 4, 5, 6, 7, 8, 9, 10, 11, 12] rfl rfl rfl rfl (by decide) hl.1 rfl (Nat.le_of_ble_eq_true rfl) dX3_init_31 ⟨(Nat.le_of_ble_eq_true rfl), (Nat.le_of_ble_eq_true rfl)⟩ (fun u3 H locs hu hP hD hS => ?_)
  have hu : u3 13 = q0 := hu
  rw [← hu]
  refine va_putF (D := (dC, dI)) (ci := 3) (v := .ref (u3 13)) (ty := .object "LampRoom$Alarms") (C := RX3) (T := TX3) (N := 4) hx hb hts hin3 tyX3 tyX3_ok nmX3 hown hK hP hD hS 0 rfl rfl 2 (by decide) (hts (.fieldLink RX3 26 "LampRoom" "alarms" "LLampRoom$Alarms;") (by decide +kernel)) (fun _ h9 => h9) rfl hin rfl (by decide +kernel) rfl rfl (Nat.le_of_ble_eq_true rfl) dX3_init_34 (fun H locs hP hD hS => ?_)
  have hP : va_P (dC, dI) vwCl ((([(q, .inr (3, [.ref (u1 1), .ref (u2 8), .ref (u3 13), .int 0]))] ++ (wLa u1 cI cZ cD (fun _ => 0) (fun _ => 0) (fun _ => 0) (fun _ => 0) (fun _ => 0) (fun _ => 0) (nI 0))) ++ (wTa u2 cI (fun _ => 0) (fun _ => 0) (fun _ => 0) (fun _ => 0) (nI 0) (nI 0))) ++ (wAl u3 cI (fun _ => 0))) H := hP
  have hD : va_D A ((([(q, .inr (3, [.ref (u1 1), .ref (u2 8), .ref (u3 13), .int 0]))] ++ (wLa u1 cI cZ cD (fun _ => 0) (fun _ => 0) (fun _ => 0) (fun _ => 0) (fun _ => 0) (fun _ => 0) (nI 0))) ++ (wTa u2 cI (fun _ => 0) (fun _ => 0) (fun _ => 0) (fun _ => 0) (nI 0) (nI 0))) ++ (wAl u3 cI (fun _ => 0))) := hD
  refine lv_aload_n hx hb dX3_init_37 rfl (lv_at hl 0 rfl) ?_
  refine lv_iconst (v := 0) hx hb dX3_init_38 (by decide) ?_
  refine va_put (D := (dC, dI)) (ci := 3) (v := .int 0) (ty := .int) (C := RX3) (T := TX3) (N := 4) hx hb hts hin3 tyX3 tyX3_ok nmX3 hown hK hP hD hS 0 rfl rfl 3 (by decide) (hts (.fieldLink RX3 30 "LampRoom" "clock" "I") (by decide +kernel)) (fun _ h9 => h9) rfl (by decide +kernel) rfl rfl (Nat.le_of_ble_eq_true rfl) dX3_init_39 (fun H locs hP hD hS => ?_)
  refine W.widen (k := 14) (n := 434) (Nat.le_of_ble_eq_true rfl) (Nat.le_of_ble_eq_true rfl) ?_
  exact W.vret hx hb hr (fun t ht hW => ⟨⟨(fun k => [q, u1 1, u1 2, u1 3, u1 4, u1 5, u1 6, u1 7, u2 8, u2 9, u2 10, u2 11, u2 12, u3 13, u3 14].getD k 0), rfl, rfl, by rw [ht]; exact hP, va_K.moved hW.alike hK, hD⟩, hS.F ht⟩) hS.2.2 dX3_init_42
