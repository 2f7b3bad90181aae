set_option maxHeartbeats 4000000 in
set_option maxRecDepth 100000 in
theorem c_X2_size (l : Launch) (dC : Nat → ClassId) (dI : Nat → Nat → Nat) (a : Nat → Nat) (cI cZ cD : ClassId) (tk th hu od : Nat → Int32) (N : Nat) (ti : Int32) (hN : N ≤ 30) (sz : Nat) : zq_Mi l yX2_size wsX2_size ({ frames := 0, cells := 0, slots := 0, locals := 0 } : Room) (dC, dI) (zq_T cI cZ cD) [.ref (a 8)] (wTa a cI tk th hu od (nI N) ti) (nI N) (wTa a cI tk th hu od (nI N) ti) sz := by
  refine Met.ofW (cc := cX2_size) (maxL := 1) (ret := (some .int)) (by decide) rfl ?_
  intro p e s m args below meth c s₁ B hml hv
  obtain ⟨rfl, hsz, hP, hK, hD0⟩ := hv
  have hx := B.exec
  have hb := B.bytes
  have hr := B.returns
  have hts := atoms_spec (ws := wsX2_size) B.pre
  have hown : s.vm.findClass RX2 = some m.cls := findClass_of_methodNamed B.named
  have hlocks := B.notSynchronized
  subst hsz
  have hD := hD0.self (sz := s.heap.size)
  generalize hAe : va_A (wTa a cI tk th hu od (nI N) ti) s.heap.size = A at hD ⊢
  have hA : ∀ q : Nat, s.heap.size ≤ q → A q := fun q h => by rw [← hAe]; exact Or.inr h
  have hS : va_S A s.heap s.heap [] := va_S.rf
  have hP : va_P (dC, dI) vwCl (wTa a cI tk th hu od (nI N) ti) s.heap := hP
  have hl := lv_entry ([.ref (a 8)]) (n := 1) (Nat.le_of_ble_eq_true rfl)
  rw [lg_entry_eq]
  generalize (lg_sl ([.ref (a 8)]) ++ List.replicate (1 - (lg_sl ([.ref (a 8)])).length) Slot.unset).toArray = ls at hl ⊢
  have hl : lv_has ls 1 [(0, .ref (a 8))] := hl
  have hf_24 := hts (.fieldLink RX2 24 "LampRoom$Tallies" "count" "I") (by decide +kernel)
  have hin_2 : ∀ w ∈ wsX20, w ∈ wsX2_size := by decide +kernel
  refine lv_aload_n hx hb dX2_size_0 rfl (lv_at hl 0 rfl) ?_
  refine va_get (D := (dC, dI)) (ci := 2) (v := .int (nI N)) (C := RX2) (T := TX2) (N := 6) hx hb hts hin_2 hown hK hP 0 rfl rfl 4 (by decide) hf_24 (fun _ h9 => h9) rfl dX2_size_1 ?_
  exact W.iret (v := nI N) hx hb hr (zq_qi rfl hP hK hD hS) hS.2.2 dX2_size_4

set_option maxHeartbeats 4000000 in
set_option maxRecDepth 100000 in
theorem c_X2_kindAt (l : Launch) (dC : Nat → ClassId) (dI : Nat → Nat → Nat) (a : Nat → Nat) (cI cZ cD : ClassId) (tk th hu od : Nat → Int32) (N : Nat) (ti : Int32) (hN : N ≤ 30) (mi : Nat) (hm : mi < 30) (sz : Nat) : zq_Mi l yX2_kindAt wsX2_kindAt ({ frames := 0, cells := 0, slots := 0, locals := 0 } : Room) (dC, dI) (zq_T cI cZ cD) [.ref (a 8), .int (nI mi)] (wTa a cI tk th hu od (nI N) ti) (tk mi) (wTa a cI tk th hu od (nI N) ti) sz := by
  refine Met.ofW (cc := cX2_kindAt) (maxL := 2) (ret := (some .int)) (by decide) rfl ?_
  intro p e s m args below meth c s₁ B hml hv
  obtain ⟨rfl, hsz, hP, hK, hD0⟩ := hv
  have hx := B.exec
  have hb := B.bytes
  have hr := B.returns
  have hts := atoms_spec (ws := wsX2_kindAt) B.pre
  have hown : s.vm.findClass RX2 = some m.cls := findClass_of_methodNamed B.named
  have hlocks := B.notSynchronized
  subst hsz
  have hD := hD0.self (sz := s.heap.size)
  generalize hAe : va_A (wTa a cI tk th hu od (nI N) ti) s.heap.size = A at hD ⊢
  have hA : ∀ q : Nat, s.heap.size ≤ q → A q := fun q h => by rw [← hAe]; exact Or.inr h
  have hS : va_S A s.heap s.heap [] := va_S.rf
  have hP : va_P (dC, dI) vwCl (wTa a cI tk th hu od (nI N) ti) s.heap := hP
  have hl := lv_entry ([.ref (a 8), .int (nI mi)]) (n := 2) (Nat.le_of_ble_eq_true rfl)
  rw [lg_entry_eq]
  generalize (lg_sl ([.ref (a 8), .int (nI mi)]) ++ List.replicate (2 - (lg_sl ([.ref (a 8), .int (nI mi)])).length) Slot.unset).toArray = ls at hl ⊢
  have hl : lv_has ls 2 [(0, .ref (a 8)), (1, .int (nI mi))] := hl
  have hf_9 := hts (.fieldLink RX2 9 "LampRoom$Tallies" "kinds" "[I") (by decide +kernel)
  have hin_2 : ∀ w ∈ wsX20, w ∈ wsX2_kindAt := by decide +kernel
  refine lv_aload_n hx hb dX2_kindAt_0 rfl (lv_at hl 0 rfl) ?_
  refine va_get (D := (dC, dI)) (ci := 2) (v := .ref (a 9)) (C := RX2) (T := TX2) (N := 6) hx hb hts hin_2 hown hK hP 0 rfl rfl 0 (by decide) hf_9 (fun _ h9 => h9) rfl dX2_kindAt_1 ?_
  refine lv_iload_n hx hb dX2_kindAt_4 rfl (lv_at hl 1 rfl) ?_
  refine zq_iald hx hb hK hP 1 0 rfl rfl (j := mi) (by omega) (by decide) dX2_kindAt_5 ?_
  exact W.iret (v := tk mi) hx hb hr (zq_qi rfl hP hK hD hS) hS.2.2 dX2_kindAt_6

set_option maxHeartbeats 4000000 in
set_option maxRecDepth 100000 in
theorem c_X2_lampHeld (l : Launch) (dC : Nat → ClassId) (dI : Nat → Nat → Nat) (a : Nat → Nat) (cI cZ cD : ClassId) (tk th hu od : Nat → Int32) (N : Nat) (ti : Int32) (hN : N ≤ 30) (mi : Nat) (hm : mi < 30) (sz : Nat) : zq_Mi l yX2_lampHeld wsX2_lampHeld ({ frames := 0, cells := 0, slots := 0, locals := 0 } : Room) (dC, dI) (zq_T cI cZ cD) [.ref (a 8), .int (nI mi)] (wTa a cI tk th hu od (nI N) ti) (th mi) (wTa a cI tk th hu od (nI N) ti) sz := by
  refine Met.ofW (cc := cX2_lampHeld) (maxL := 2) (ret := (some .int)) (by decide) rfl ?_
  intro p e s m args below meth c s₁ B hml hv
  obtain ⟨rfl, hsz, hP, hK, hD0⟩ := hv
  have hx := B.exec
  have hb := B.bytes
  have hr := B.returns
  have hts := atoms_spec (ws := wsX2_lampHeld) B.pre
  have hown : s.vm.findClass RX2 = some m.cls := findClass_of_methodNamed B.named
  have hlocks := B.notSynchronized
  subst hsz
  have hD := hD0.self (sz := s.heap.size)
  generalize hAe : va_A (wTa a cI tk th hu od (nI N) ti) s.heap.size = A at hD ⊢
  have hA : ∀ q : Nat, s.heap.size ≤ q → A q := fun q h => by rw [← hAe]; exact Or.inr h
  have hS : va_S A s.heap s.heap [] := va_S.rf
  have hP : va_P (dC, dI) vwCl (wTa a cI tk th hu od (nI N) ti) s.heap := hP
  have hl := lv_entry ([.ref (a 8), .int (nI mi)]) (n := 2) (Nat.le_of_ble_eq_true rfl)
  rw [lg_entry_eq]
  generalize (lg_sl ([.ref (a 8), .int (nI mi)]) ++ List.replicate (2 - (lg_sl ([.ref (a 8), .int (nI mi)])).length) Slot.unset).toArray = ls at hl ⊢
  have hl : lv_has ls 2 [(0, .ref (a 8)), (1, .int (nI mi))] := hl
  have hf_15 := hts (.fieldLink RX2 15 "LampRoom$Tallies" "held" "[I") (by decide +kernel)
  have hin_2 : ∀ w ∈ wsX20, w ∈ wsX2_lampHeld := by decide +kernel
  refine lv_aload_n hx hb dX2_lampHeld_0 rfl (lv_at hl 0 rfl) ?_
  refine va_get (D := (dC, dI)) (ci := 2) (v := .ref (a 10)) (C := RX2) (T := TX2) (N := 6) hx hb hts hin_2 hown hK hP 0 rfl rfl 1 (by decide) hf_15 (fun _ h9 => h9) rfl dX2_lampHeld_1 ?_
  refine lv_iload_n hx hb dX2_lampHeld_4 rfl (lv_at hl 1 rfl) ?_
  refine zq_iald hx hb hK hP 2 0 rfl rfl (j := mi) (by omega) (by decide) dX2_lampHeld_5 ?_
  exact W.iret (v := th mi) hx hb hr (zq_qi rfl hP hK hD hS) hS.2.2 dX2_lampHeld_6

set_option maxHeartbeats 4000000 in
set_option maxRecDepth 100000 in
theorem c_X2_hungAt (l : Launch) (dC : Nat → ClassId) (dI : Nat → Nat → Nat) (a : Nat → Nat) (cI cZ cD : ClassId) (tk th hu od : Nat → Int32) (N : Nat) (ti : Int32) (hN : N ≤ 30) (mi : Nat) (hm : mi < 30) (sz : Nat) : zq_Mi l yX2_hungAt wsX2_hungAt ({ frames := 0, cells := 0, slots := 0, locals := 0 } : Room) (dC, dI) (zq_T cI cZ cD) [.ref (a 8), .int (nI mi)] (wTa a cI tk th hu od (nI N) ti) (hu mi) (wTa a cI tk th hu od (nI N) ti) sz := by
  refine Met.ofW (cc := cX2_hungAt) (maxL := 2) (ret := (some .int)) (by decide) rfl ?_
  intro p e s m args below meth c s₁ B hml hv
  obtain ⟨rfl, hsz, hP, hK, hD0⟩ := hv
  have hx := B.exec
  have hb := B.bytes
  have hr := B.returns
  have hts := atoms_spec (ws := wsX2_hungAt) B.pre
  have hown : s.vm.findClass RX2 = some m.cls := findClass_of_methodNamed B.named
  have hlocks := B.notSynchronized
  subst hsz
  have hD := hD0.self (sz := s.heap.size)
  generalize hAe : va_A (wTa a cI tk th hu od (nI N) ti) s.heap.size = A at hD ⊢
  have hA : ∀ q : Nat, s.heap.size ≤ q → A q := fun q h => by rw [← hAe]; exact Or.inr h
  have hS : va_S A s.heap s.heap [] := va_S.rf
  have hP : va_P (dC, dI) vwCl (wTa a cI tk th hu od (nI N) ti) s.heap := hP
  have hl := lv_entry ([.ref (a 8), .int (nI mi)]) (n := 2) (Nat.le_of_ble_eq_true rfl)
  rw [lg_entry_eq]
  generalize (lg_sl ([.ref (a 8), .int (nI mi)]) ++ List.replicate (2 - (lg_sl ([.ref (a 8), .int (nI mi)])).length) Slot.unset).toArray = ls at hl ⊢
  have hl : lv_has ls 2 [(0, .ref (a 8)), (1, .int (nI mi))] := hl
  have hf_18 := hts (.fieldLink RX2 18 "LampRoom$Tallies" "hours" "[I") (by decide +kernel)
  have hin_2 : ∀ w ∈ wsX20, w ∈ wsX2_hungAt := by decide +kernel
  refine lv_aload_n hx hb dX2_hungAt_0 rfl (lv_at hl 0 rfl) ?_
  refine va_get (D := (dC, dI)) (ci := 2) (v := .ref (a 11)) (C := RX2) (T := TX2) (N := 6) hx hb hts hin_2 hown hK hP 0 rfl rfl 2 (by decide) hf_18 (fun _ h9 => h9) rfl dX2_hungAt_1 ?_
  refine lv_iload_n hx hb dX2_hungAt_4 rfl (lv_at hl 1 rfl) ?_
  refine zq_iald hx hb hK hP 3 0 rfl rfl (j := mi) (by omega) (by decide) dX2_hungAt_5 ?_
  exact W.iret (v := hu mi) hx hb hr (zq_qi rfl hP hK hD hS) hS.2.2 dX2_hungAt_6

set_option maxHeartbeats 4000000 in
set_option maxRecDepth 100000 in
theorem c_X2_enter (l : Launch) (dC : Nat → ClassId) (dI : Nat → Nat → Nat) (a : Nat → Nat) (cI cZ cD : ClassId) (tk th hu od : Nat → Int32) (N : Nat) (ti : Int32) (hN : N ≤ 30) (k : Int32) (hN1 : N < 30) (sz : Nat) : zq_Mi l yX2_enter wsX2_enter ({ frames := 0, cells := 0, slots := 0, locals := 0 } : Room) (dC, dI) (zq_T cI cZ cD) [.ref (a 8), .int k] (wTa a cI tk th hu od (nI N) ti) (nI N) (wTa a cI (upd tk N k) (upd th N (-1)) hu od (nI (N + 1)) ti) sz := by
  refine Met.ofW (cc := cX2_enter) (maxL := 3) (ret := (some .int)) (by decide) rfl ?_
  intro p e s m args below meth c s₁ B hml hv
  obtain ⟨rfl, hsz, hP, hK, hD0⟩ := hv
  have hx := B.exec
  have hb := B.bytes
  have hr := B.returns
  have hts := atoms_spec (ws := wsX2_enter) B.pre
  have hown : s.vm.findClass RX2 = some m.cls := findClass_of_methodNamed B.named
  have hlocks := B.notSynchronized
  subst hsz
  have hD := hD0.self (sz := s.heap.size)
  generalize hAe : va_A (wTa a cI tk th hu od (nI N) ti) s.heap.size = A at hD ⊢
  have hA : ∀ q : Nat, s.heap.size ≤ q → A q := fun q h => by rw [← hAe]; exact Or.inr h
  have hS : va_S A s.heap s.heap [] := va_S.rf
  have hP : va_P (dC, dI) vwCl (wTa a cI tk th hu od (nI N) ti) s.heap := hP
  have hl := lv_entry ([.ref (a 8), .int k]) (n := 3) (Nat.le_of_ble_eq_true rfl)
  rw [lg_entry_eq]
  generalize (lg_sl ([.ref (a 8), .int k]) ++ List.replicate (3 - (lg_sl ([.ref (a 8), .int k])).length) Slot.unset).toArray = ls at hl ⊢
  have hl : lv_has ls 3 [(0, .ref (a 8)), (1, .int k)] := hl
  have hf_24 := hts (.fieldLink RX2 24 "LampRoom$Tallies" "count" "I") (by decide +kernel)
  have hin_2 : ∀ w ∈ wsX20, w ∈ wsX2_enter := by decide +kernel
  have hf_9 := hts (.fieldLink RX2 9 "LampRoom$Tallies" "kinds" "[I") (by decide +kernel)
  have hf_15 := hts (.fieldLink RX2 15 "LampRoom$Tallies" "held" "[I") (by decide +kernel)
  refine lv_aload_n hx hb dX2_enter_0 rfl (lv_at hl 0 rfl) ?_
  refine va_get (D := (dC, dI)) (ci := 2) (v := .int (nI N)) (C := RX2) (T := TX2) (N := 6) hx hb hts hin_2 hown hK hP 0 rfl rfl 4 (by decide) hf_24 (fun _ h9 => h9) rfl dX2_enter_1 ?_
  refine lv_istore_n (lv' := [(2, .int (nI N)), (0, .ref (a 8)), (1, .int k)]) hx hb dX2_enter_4 rfl hl (by decide) rfl (fun ls hl => ?_)
  refine lv_aload_n hx hb dX2_enter_5 rfl (lv_at hl 1 rfl) ?_
  refine va_get (D := (dC, dI)) (ci := 2) (v := .ref (a 9)) (C := RX2) (T := TX2) (N := 6) hx hb hts hin_2 hown hK hP 0 rfl rfl 0 (by decide) hf_9 (fun _ h9 => h9) rfl dX2_enter_6 ?_
  refine lv_iload_n hx hb dX2_enter_9 rfl (lv_at hl 0 rfl) ?_
  refine lv_iload_n hx hb dX2_enter_10 rfl (lv_at hl 2 rfl) ?_
  refine zq_iast hx hb hK hP hD hS 1 0 rfl rfl (j := N) (by omega) (by decide) (wTa a cI (upd tk N k) th hu od (nI N) ti) rfl dX2_enter_11 (fun H locs hP hD hS => ?_)
  refine lv_aload_n hx hb dX2_enter_12 rfl (lv_at hl 1 rfl) ?_
  refine va_get (D := (dC, dI)) (ci := 2) (v := .ref (a 10)) (C := RX2) (T := TX2) (N := 6) hx hb hts hin_2 hown hK hP 0 rfl rfl 1 (by decide) hf_15 (fun _ h9 => h9) rfl dX2_enter_13 ?_
  refine lv_iload_n hx hb dX2_enter_16 rfl (lv_at hl 0 rfl) ?_
  refine lv_iconst (v := (-1)) hx hb dX2_enter_17 (by decide) ?_
  refine zq_iast hx hb hK hP hD hS 2 0 rfl rfl (j := N) (by omega) (by decide) (wTa a cI (upd tk N k) (upd th N (-1)) hu od (nI N) ti) rfl dX2_enter_18 (fun H locs hP hD hS => ?_)
  refine lv_aload_n hx hb dX2_enter_19 rfl (lv_at hl 1 rfl) ?_
  refine lv_dup hx hb dX2_enter_20 rfl ?_
  refine va_get (D := (dC, dI)) (ci := 2) (v := .int (nI N)) (C := RX2) (T := TX2) (N := 6) hx hb hts hin_2 hown hK hP 0 rfl rfl 4 (by decide) hf_24 (fun _ h9 => h9) rfl dX2_enter_21 ?_
  refine lv_iconst (v := 1) hx hb dX2_enter_24 (by decide) ?_
  refine t_iadd hx hb dX2_enter_25 (v := nI (N + 1)) (nI_1 _) ?_
  refine va_put (D := (dC, dI)) (ci := 2) (v := .int (nI (N + 1))) (ty := .int) (C := RX2) (T := TX2) (N := 6) hx hb hts hin_2 tyX2 tyX2_ok nmX2 hown hK hP hD hS 0 rfl rfl 4 (by decide) hf_24 (fun _ h9 => h9) rfl (by decide +kernel) rfl rfl (Nat.le_of_ble_eq_true rfl) dX2_enter_26 (fun H locs hP hD hS => ?_)
  have hP : va_P (dC, dI) vwCl (wTa a cI (upd tk N k) (upd th N (-1)) hu od (nI (N + 1)) ti) H := hP
  have hD : va_D A (wTa a cI (upd tk N k) (upd th N (-1)) hu od (nI (N + 1)) ti) := hD
  refine lv_iload_n hx hb dX2_enter_29 rfl (lv_at hl 0 rfl) ?_
  exact W.iret (v := nI N) hx hb hr (zq_qi rfl hP hK hD hS) hS.2.2 dX2_enter_30

set_option maxHeartbeats 4000000 in
set_option maxRecDepth 100000 in
theorem c_X2_onBoard (l : Launch) (dC : Nat → ClassId) (dI : Nat → Nat → Nat) (a : Nat → Nat) (cI cZ cD : ClassId) (tk th hu od : Nat → Int32) (N : Nat) (ti : Int32) (hN : N ≤ 30) (sz : Nat) : zq_Mi l yX2_onBoard wsX2_onBoard ({ frames := 0, cells := 0, slots := 0, locals := 0 } : Room) (dC, dI) (zq_T cI cZ cD) [.ref (a 8)] (wTa a cI tk th hu od (nI N) ti) (nI (zf_cnt (ta_p th) N)) (wTa a cI tk th hu od (nI N) ti) sz := by
  refine Met.ofW (cc := cX2_onBoard) (maxL := 3) (ret := (some .int)) (by decide) rfl ?_
  intro p e s m args below meth c s₁ B hml hv
  obtain ⟨rfl, hsz, hP, hK, hD0⟩ := hv
  have hx := B.exec
  have hb := B.bytes
  have hr := B.returns
  have hts := atoms_spec (ws := wsX2_onBoard) B.pre
  have hown : s.vm.findClass RX2 = some m.cls := findClass_of_methodNamed B.named
  have hlocks := B.notSynchronized
  subst hsz
  have hD := hD0.self (sz := s.heap.size)
  generalize hAe : va_A (wTa a cI tk th hu od (nI N) ti) s.heap.size = A at hD ⊢
  have hA : ∀ q : Nat, s.heap.size ≤ q → A q := fun q h => by rw [← hAe]; exact Or.inr h
  have hS : va_S A s.heap s.heap [] := va_S.rf
  have hP : va_P (dC, dI) vwCl (wTa a cI tk th hu od (nI N) ti) s.heap := hP
  have hl := lv_entry ([.ref (a 8)]) (n := 3) (Nat.le_of_ble_eq_true rfl)
  rw [lg_entry_eq]
  generalize (lg_sl ([.ref (a 8)]) ++ List.replicate (3 - (lg_sl ([.ref (a 8)])).length) Slot.unset).toArray = ls at hl ⊢
  have hl : lv_has ls 3 [(0, .ref (a 8))] := hl
  have hf_24 := hts (.fieldLink RX2 24 "LampRoom$Tallies" "count" "I") (by decide +kernel)
  have hin_2 : ∀ w ∈ wsX20, w ∈ wsX2_onBoard := by decide +kernel
  have hf_15 := hts (.fieldLink RX2 15 "LampRoom$Tallies" "held" "[I") (by decide +kernel)
  refine lv_iconst (v := 0) hx hb dX2_onBoard_0 (by decide) ?_
  refine lv_istore_n (lv' := [(1, .int 0), (0, .ref (a 8))]) hx hb dX2_onBoard_1 rfl hl (by decide) rfl (fun ls hl => ?_)
  refine lv_iconst (v := 0) hx hb dX2_onBoard_2 (by decide) ?_
  refine lv_istore_n (lv' := [(2, .int 0), (1, .int 0), (0, .ref (a 8))]) hx hb dX2_onBoard_3 rfl hl (by decide) rfl (fun ls hl => ?_)
  refine zq_loop 4 N (fun i H locs ls => va_P (dC, dI) vwCl (wTa a cI tk th hu od (nI N) ti) H ∧ va_D A (wTa a cI tk th hu od (nI N) ti) ∧ va_S A s.heap H locs ∧ lv_has ls 3 [(1, .int (nI (zf_cnt (ta_p th) i))), (2, .int (nI i)), (0, .ref (a 8))]) ?_ 0 (by omega) _ _ _ ⟨hP, hD, hS, lv_sub hl [1, 0, 2] rfl⟩
  intro i hi_i ih_i H locs ls hh
  obtain ⟨hP, hD, hS, hl⟩ := hh
  refine lv_iload_n hx hb dX2_onBoard_4 rfl (lv_at hl 1 rfl) ?_
  refine lv_aload_n hx hb dX2_onBoard_5 rfl (lv_at hl 2 rfl) ?_
  refine va_get (D := (dC, dI)) (ci := 2) (v := .int (nI N)) (C := RX2) (T := TX2) (N := 6) hx hb hts hin_2 hown hK hP 0 rfl rfl 4 (by decide) hf_24 (fun _ h9 => h9) rfl dX2_onBoard_6 ?_
  refine lv_icmp_ge (tgt := 31) hx hb dX2_onBoard_9 (by decide) (fun c_0 => ?_) (fun c_0 => ?_)
  · have d_0 := (nI_leI (a := N) (b := i) (by omega) (by omega)).mp c_0
    have ei_i : i = N := by omega
    refine lv_iload_n hx hb dX2_onBoard_31 rfl (lv_at hl 0 rfl) ?_
    exact W.iret (v := nI (zf_cnt (ta_p th) i)) hx hb hr (zq_qi (by first | with_reducible rfl | simp [d_0, ei_i]) hP hK hD hS) hS.2.2 dX2_onBoard_32
  · have d_0 := Nat.not_le.mp (fun h => c_0 ((nI_leI (a := N) (b := i) (by omega) (by omega)).mpr h))
    refine lv_aload_n hx hb dX2_onBoard_12 rfl (lv_at hl 2 rfl) ?_
    refine va_get (D := (dC, dI)) (ci := 2) (v := .ref (a 10)) (C := RX2) (T := TX2) (N := 6) hx hb hts hin_2 hown hK hP 0 rfl rfl 1 (by decide) hf_15 (fun _ h9 => h9) rfl dX2_onBoard_13 ?_
    refine lv_iload_n hx hb dX2_onBoard_16 rfl (lv_at hl 1 rfl) ?_
    refine zq_iald hx hb hK hP 2 0 rfl rfl (j := i) (by omega) (by decide) dX2_onBoard_17 ?_
    refine lv_iconst (v := (-1)) hx hb dX2_onBoard_18 (by decide) ?_
    refine lv_icmp_eq (tgt := 25) hx hb dX2_onBoard_19 (by decide) (fun c_1 => ?_) (fun c_1 => ?_)
    · refine lv_iinc (v := nI (i + 1)) (lv' := [(2, .int (nI (i + 1))), (1, .int (nI (zf_cnt (ta_p th) i))), (0, .ref (a 8))]) hx hb dX2_onBoard_25 hl (k := 1) rfl (nI_add _ 1) (by decide) rfl (fun ls hl => ?_)
      refine lv_goto (tgt := 4) hx hb dX2_onBoard_28 (by decide) ?_
      have e_2 : (nI (zf_cnt (ta_p th) (i + 1))) = (nI (zf_cnt (ta_p th) i)) := by rw [zf_cnt_f (by simp [ta_p, d_0, c_1])]
      exact ih_i _ _ _ (by omega) ⟨(by (try rw [e_2]); exact hP), (by (try rw [e_2]); exact hD), hS, (by (try rw [e_2]); exact lv_sub hl [1, 0, 2] rfl)⟩
    · refine lv_iinc (v := nI ((zf_cnt (ta_p th) i) + 1)) (lv' := [(1, .int (nI ((zf_cnt (ta_p th) i) + 1))), (2, .int (nI i)), (0, .ref (a 8))]) hx hb dX2_onBoard_22 hl (k := 0) rfl (nI_add _ 1) (by decide) rfl (fun ls hl => ?_)
      refine lv_iinc (v := nI (i + 1)) (lv' := [(2, .int (nI (i + 1))), (1, .int (nI ((zf_cnt (ta_p th) i) + 1))), (0, .ref (a 8))]) hx hb dX2_onBoard_25 hl (k := 1) rfl (nI_add _ 1) (by decide) rfl (fun ls hl => ?_)
      refine lv_goto (tgt := 4) hx hb dX2_onBoard_28 (by decide) ?_
      have e_3 : (nI (zf_cnt (ta_p th) (i + 1))) = (nI ((zf_cnt (ta_p th) i) + 1)) := by rw [zf_cnt_t (by simp [ta_p, d_0, c_1])]
      exact ih_i _ _ _ (by omega) ⟨(by (try rw [e_3]); exact hP), (by (try rw [e_3]); exact hD), hS, (by (try rw [e_3]); exact lv_sub hl [1, 0, 2] rfl)⟩

set_option maxHeartbeats 4000000 in
set_option maxRecDepth 100000 in
theorem c_X2_countAhead (l : Launch) (dC : Nat → ClassId) (dI : Nat → Nat → Nat) (a : Nat → Nat) (cI cZ cD : ClassId) (tk th hu od : Nat → Int32) (N : Nat) (ti : Int32) (hN : N ≤ 30) (mi : Nat) (hm : mi < 30) (sz : Nat) : zq_Mi l yX2_countAhead wsX2_countAhead ({ frames := 0, cells := 0, slots := 0, locals := 0 } : Room) (dC, dI) (zq_T cI cZ cD) [.ref (a 8), .int (nI mi)] (wTa a cI tk th hu od (nI N) ti) (nI (zf_cnt (ta_ah th od mi) N)) (wTa a cI tk th hu od (nI N) ti) sz := by
  refine Met.ofW (cc := cX2_countAhead) (maxL := 4) (ret := (some .int)) (by decide) rfl ?_
  intro p e s m args below meth c s₁ B hml hv
  obtain ⟨rfl, hsz, hP, hK, hD0⟩ := hv
  have hx := B.exec
  have hb := B.bytes
  have hr := B.returns
  have hts := atoms_spec (ws := wsX2_countAhead) B.pre
  have hown : s.vm.findClass RX2 = some m.cls := findClass_of_methodNamed B.named
  have hlocks := B.notSynchronized
  subst hsz
  have hD := hD0.self (sz := s.heap.size)
  generalize hAe : va_A (wTa a cI tk th hu od (nI N) ti) s.heap.size = A at hD ⊢
  have hA : ∀ q : Nat, s.heap.size ≤ q → A q := fun q h => by rw [← hAe]; exact Or.inr h
  have hS : va_S A s.heap s.heap [] := va_S.rf
  have hP : va_P (dC, dI) vwCl (wTa a cI tk th hu od (nI N) ti) s.heap := hP
  have hl := lv_entry ([.ref (a 8), .int (nI mi)]) (n := 4) (Nat.le_of_ble_eq_true rfl)
  rw [lg_entry_eq]
  generalize (lg_sl ([.ref (a 8), .int (nI mi)]) ++ List.replicate (4 - (lg_sl ([.ref (a 8), .int (nI mi)])).length) Slot.unset).toArray = ls at hl ⊢
  have hl : lv_has ls 4 [(0, .ref (a 8)), (1, .int (nI mi))] := hl
  have hf_24 := hts (.fieldLink RX2 24 "LampRoom$Tallies" "count" "I") (by decide +kernel)
  have hin_2 : ∀ w ∈ wsX20, w ∈ wsX2_countAhead := by decide +kernel
  have hf_15 := hts (.fieldLink RX2 15 "LampRoom$Tallies" "held" "[I") (by decide +kernel)
  have hf_21 := hts (.fieldLink RX2 21 "LampRoom$Tallies" "orders" "[I") (by decide +kernel)
  refine lv_iconst (v := 0) hx hb dX2_countAhead_0 (by decide) ?_
  refine lv_istore_n (lv' := [(2, .int 0), (0, .ref (a 8)), (1, .int (nI mi))]) hx hb dX2_countAhead_1 rfl hl (by decide) rfl (fun ls hl => ?_)
  refine lv_iconst (v := 0) hx hb dX2_countAhead_2 (by decide) ?_
  refine lv_istore_n (lv' := [(3, .int 0), (2, .int 0), (0, .ref (a 8)), (1, .int (nI mi))]) hx hb dX2_countAhead_3 rfl hl (by decide) rfl (fun ls hl => ?_)
  refine zq_loop 4 N (fun i H locs ls => va_P (dC, dI) vwCl (wTa a cI tk th hu od (nI N) ti) H ∧ va_D A (wTa a cI tk th hu od (nI N) ti) ∧ va_S A s.heap H locs ∧ lv_has ls 4 [(2, .int (nI (zf_cnt (ta_ah th od mi) i))), (3, .int (nI i)), (0, .ref (a 8)), (1, .int (nI mi))]) ?_ 0 (by omega) _ _ _ ⟨hP, hD, hS, lv_sub hl [1, 0, 2, 3] rfl⟩
  intro i hi_i ih_i H locs ls hh
  obtain ⟨hP, hD, hS, hl⟩ := hh
  refine lv_iload_n hx hb dX2_countAhead_4 rfl (lv_at hl 1 rfl) ?_
  refine lv_aload_n hx hb dX2_countAhead_5 rfl (lv_at hl 2 rfl) ?_
  refine va_get (D := (dC, dI)) (ci := 2) (v := .int (nI N)) (C := RX2) (T := TX2) (N := 6) hx hb hts hin_2 hown hK hP 0 rfl rfl 4 (by decide) hf_24 (fun _ h9 => h9) rfl dX2_countAhead_6 ?_
  refine lv_icmp_ge (tgt := 46) hx hb dX2_countAhead_9 (by decide) (fun c_0 => ?_) (fun c_0 => ?_)
  · have d_0 := (nI_leI (a := N) (b := i) (by omega) (by omega)).mp c_0
    have ei_i : i = N := by omega
    refine lv_iload_n hx hb dX2_countAhead_46 rfl (lv_at hl 0 rfl) ?_
    exact W.iret (v := nI (zf_cnt (ta_ah th od mi) i)) hx hb hr (zq_qi (by first | with_reducible rfl | simp [d_0, ei_i]) hP hK hD hS) hS.2.2 dX2_countAhead_47
  · have d_0 := Nat.not_le.mp (fun h => c_0 ((nI_leI (a := N) (b := i) (by omega) (by omega)).mpr h))
    refine lv_aload_n hx hb dX2_countAhead_12 rfl (lv_at hl 2 rfl) ?_
    refine va_get (D := (dC, dI)) (ci := 2) (v := .ref (a 10)) (C := RX2) (T := TX2) (N := 6) hx hb hts hin_2 hown hK hP 0 rfl rfl 1 (by decide) hf_15 (fun _ h9 => h9) rfl dX2_countAhead_13 ?_
    refine lv_iload_n hx hb dX2_countAhead_16 rfl (lv_at hl 1 rfl) ?_
    refine zq_iald hx hb hK hP 2 0 rfl rfl (j := i) (by omega) (by decide) dX2_countAhead_17 ?_
    refine lv_iconst (v := (-1)) hx hb dX2_countAhead_18 (by decide) ?_
    refine lv_icmp_eq (tgt := 40) hx hb dX2_countAhead_19 (by decide) (fun c_1 => ?_) (fun c_1 => ?_)
    · refine lv_iinc (v := nI (i + 1)) (lv' := [(3, .int (nI (i + 1))), (2, .int (nI (zf_cnt (ta_ah th od mi) i))), (0, .ref (a 8)), (1, .int (nI mi))]) hx hb dX2_countAhead_40 hl (k := 1) rfl (nI_add _ 1) (by decide) rfl (fun ls hl => ?_)
      refine lv_goto (tgt := 4) hx hb dX2_countAhead_43 (by decide) ?_
      have e_2 : (nI (zf_cnt (ta_ah th od mi) (i + 1))) = (nI (zf_cnt (ta_ah th od mi) i)) := by rw [zf_cnt_f (by simp [ta_ah, d_0, c_1])]
      exact ih_i _ _ _ (by omega) ⟨(by (try rw [e_2]); exact hP), (by (try rw [e_2]); exact hD), hS, (by (try rw [e_2]); exact lv_sub hl [1, 0, 2, 3] rfl)⟩
    · refine lv_aload_n hx hb dX2_countAhead_22 rfl (lv_at hl 2 rfl) ?_
      refine va_get (D := (dC, dI)) (ci := 2) (v := .ref (a 12)) (C := RX2) (T := TX2) (N := 6) hx hb hts hin_2 hown hK hP 0 rfl rfl 3 (by decide) hf_21 (fun _ h9 => h9) rfl dX2_countAhead_23 ?_
      refine lv_iload_n hx hb dX2_countAhead_26 rfl (lv_at hl 1 rfl) ?_
      refine zq_iald hx hb hK hP 4 0 rfl rfl (j := i) (by omega) (by decide) dX2_countAhead_27 ?_
      refine lv_aload_n hx hb dX2_countAhead_28 rfl (lv_at hl 2 rfl) ?_
      refine va_get (D := (dC, dI)) (ci := 2) (v := .ref (a 12)) (C := RX2) (T := TX2) (N := 6) hx hb hts hin_2 hown hK hP 0 rfl rfl 3 (by decide) hf_21 (fun _ h9 => h9) rfl dX2_countAhead_29 ?_
      refine lv_iload_n hx hb dX2_countAhead_32 rfl (lv_at hl 3 rfl) ?_
      refine zq_iald hx hb hK hP 4 0 rfl rfl (j := mi) (by omega) (by decide) dX2_countAhead_33 ?_
      refine lv_icmp_ge (tgt := 40) hx hb dX2_countAhead_34 (by decide) (fun c_3 => ?_) (fun c_3 => ?_)
      · refine lv_iinc (v := nI (i + 1)) (lv' := [(3, .int (nI (i + 1))), (2, .int (nI (zf_cnt (ta_ah th od mi) i))), (0, .ref (a 8)), (1, .int (nI mi))]) hx hb dX2_countAhead_40 hl (k := 1) rfl (nI_add _ 1) (by decide) rfl (fun ls hl => ?_)
        refine lv_goto (tgt := 4) hx hb dX2_countAhead_43 (by decide) ?_
        have e_4 : (nI (zf_cnt (ta_ah th od mi) (i + 1))) = (nI (zf_cnt (ta_ah th od mi) i)) := by rw [zf_cnt_f (by simp [ta_ah, d_0, c_1, c_3])]
        exact ih_i _ _ _ (by omega) ⟨(by (try rw [e_4]); exact hP), (by (try rw [e_4]); exact hD), hS, (by (try rw [e_4]); exact lv_sub hl [1, 0, 2, 3] rfl)⟩
      · refine lv_iinc (v := nI ((zf_cnt (ta_ah th od mi) i) + 1)) (lv' := [(2, .int (nI ((zf_cnt (ta_ah th od mi) i) + 1))), (3, .int (nI i)), (0, .ref (a 8)), (1, .int (nI mi))]) hx hb dX2_countAhead_37 hl (k := 0) rfl (nI_add _ 1) (by decide) rfl (fun ls hl => ?_)
        refine lv_iinc (v := nI (i + 1)) (lv' := [(3, .int (nI (i + 1))), (2, .int (nI ((zf_cnt (ta_ah th od mi) i) + 1))), (0, .ref (a 8)), (1, .int (nI mi))]) hx hb dX2_countAhead_40 hl (k := 1) rfl (nI_add _ 1) (by decide) rfl (fun ls hl => ?_)
        refine lv_goto (tgt := 4) hx hb dX2_countAhead_43 (by decide) ?_
        have e_5 : (nI (zf_cnt (ta_ah th od mi) (i + 1))) = (nI ((zf_cnt (ta_ah th od mi) i) + 1)) := by rw [zf_cnt_t (by simp [ta_ah, d_0, c_1, c_3, Int32.not_le.mp c_3])]
        exact ih_i _ _ _ (by omega) ⟨(by (try rw [e_5]); exact hP), (by (try rw [e_5]); exact hD), hS, (by (try rw [e_5]); exact lv_sub hl [1, 0, 2, 3] rfl)⟩

set_option maxHeartbeats 4000000 in
set_option maxRecDepth 100000 in
theorem c_X2_onBoardAt (l : Launch) (dC : Nat → ClassId) (dI : Nat → Nat → Nat) (a : Nat → Nat) (cI cZ cD : ClassId) (tk th hu od : Nat → Int32) (N : Nat) (ti : Int32) (hN : N ≤ 30) (pl : Int32) (sz : Nat) : zq_Mi l yX2_onBoardAt wsX2_onBoardAt ({ frames := 1, cells := 0, slots := 0, locals := 23 } : Room) (dC, dI) (zq_T cI cZ cD) [.ref (a 8), .int pl] (wTa a cI tk th hu od (nI N) ti) (zf_find (ta_hit th od N pl) N 0) (wTa a cI tk th hu od (nI N) ti) sz := by
  refine Met.ofW (cc := cX2_onBoardAt) (maxL := 3) (ret := (some .int)) (by decide) rfl ?_
  intro p e s m args below meth c s₁ B hml hv
  obtain ⟨rfl, hsz, hP, hK, hD0⟩ := hv
  have hx := B.exec
  have hb := B.bytes
  have hr := B.returns
  have hts := atoms_spec (ws := wsX2_onBoardAt) B.pre
  have hown : s.vm.findClass RX2 = some m.cls := findClass_of_methodNamed B.named
  have hlocks := B.notSynchronized
  subst hsz
  have hD := hD0.self (sz := s.heap.size)
  generalize hAe : va_A (wTa a cI tk th hu od (nI N) ti) s.heap.size = A at hD ⊢
  have hA : ∀ q : Nat, s.heap.size ≤ q → A q := fun q h => by rw [← hAe]; exact Or.inr h
  have hS : va_S A s.heap s.heap [] := va_S.rf
  have hP : va_P (dC, dI) vwCl (wTa a cI tk th hu od (nI N) ti) s.heap := hP
  have hl := lv_entry ([.ref (a 8), .int pl]) (n := 3) (Nat.le_of_ble_eq_true rfl)
  rw [lg_entry_eq]
  generalize (lg_sl ([.ref (a 8), .int pl]) ++ List.replicate (3 - (lg_sl ([.ref (a 8), .int pl])).length) Slot.unset).toArray = ls at hl ⊢
  have hl : lv_has ls 3 [(0, .ref (a 8)), (1, .int pl)] := hl
  have hf_24 := hts (.fieldLink RX2 24 "LampRoom$Tallies" "count" "I") (by decide +kernel)
  have hin_2 : ∀ w ∈ wsX20, w ∈ wsX2_onBoardAt := by decide +kernel
  have hf_15 := hts (.fieldLink RX2 15 "LampRoom$Tallies" "held" "[I") (by decide +kernel)
  refine lv_iconst (v := 0) hx hb dX2_onBoardAt_0 (by decide) ?_
  refine lv_istore_n (lv' := [(2, .int 0), (0, .ref (a 8)), (1, .int pl)]) hx hb dX2_onBoardAt_1 rfl hl (by decide) rfl (fun ls hl => ?_)
  refine zq_loop 2 N (fun i H locs ls => va_P (dC, dI) vwCl (wTa a cI tk th hu od (nI N) ti) H ∧ va_D A (wTa a cI tk th hu od (nI N) ti) ∧ va_S A s.heap H locs ∧ lv_has ls 3 [(2, .int (nI i)), (0, .ref (a 8)), (1, .int pl)] ∧ zf_find (ta_hit th od N pl) (N - i) i = zf_find (ta_hit th od N pl) N 0) ?_ 0 (by omega) _ _ _ ⟨hP, hD, hS, lv_sub hl [0, 1, 2] rfl, rfl⟩
  intro i hi_i ih_i H locs ls hh
  obtain ⟨hP, hD, hS, hl, hx_i⟩ := hh
  refine lv_iload_n hx hb dX2_onBoardAt_2 rfl (lv_at hl 0 rfl) ?_
  refine lv_aload_n hx hb dX2_onBoardAt_3 rfl (lv_at hl 1 rfl) ?_
  refine va_get (D := (dC, dI)) (ci := 2) (v := .int (nI N)) (C := RX2) (T := TX2) (N := 6) hx hb hts hin_2 hown hK hP 0 rfl rfl 4 (by decide) hf_24 (fun _ h9 => h9) rfl dX2_onBoardAt_4 ?_
  refine lv_icmp_ge (tgt := 37) hx hb dX2_onBoardAt_7 (by decide) (fun c_0 => ?_) (fun c_0 => ?_)
  · have d_0 := (nI_leI (a := N) (b := i) (by omega) (by omega)).mp c_0
    have ei_i : i = N := by omega
    refine lv_iconst (v := (-1)) hx hb dX2_onBoardAt_37 (by decide) ?_
    exact W.iret (v := (-1)) hx hb hr (zq_qi (by rw [← hx_i]; exact (zf_end (by omega)).symm) hP hK hD hS) hS.2.2 dX2_onBoardAt_38
  · have d_0 := Nat.not_le.mp (fun h => c_0 ((nI_leI (a := N) (b := i) (by omega) (by omega)).mpr h))
    refine lv_aload_n hx hb dX2_onBoardAt_10 rfl (lv_at hl 1 rfl) ?_
    refine va_get (D := (dC, dI)) (ci := 2) (v := .ref (a 10)) (C := RX2) (T := TX2) (N := 6) hx hb hts hin_2 hown hK hP 0 rfl rfl 1 (by decide) hf_15 (fun _ h9 => h9) rfl dX2_onBoardAt_11 ?_
    refine lv_iload_n hx hb dX2_onBoardAt_14 rfl (lv_at hl 0 rfl) ?_
    refine zq_iald hx hb hK hP 2 0 rfl rfl (j := i) (by omega) (by decide) dX2_onBoardAt_15 ?_
    refine lv_iconst (v := (-1)) hx hb dX2_onBoardAt_16 (by decide) ?_
    refine lv_icmp_eq (tgt := 31) hx hb dX2_onBoardAt_17 (by decide) (fun c_1 => ?_) (fun c_1 => ?_)
    · refine lv_iinc (v := nI (i + 1)) (lv' := [(2, .int (nI (i + 1))), (0, .ref (a 8)), (1, .int pl)]) hx hb dX2_onBoardAt_31 hl (k := 0) rfl (nI_add _ 1) (by decide) rfl (fun ls hl => ?_)
      refine lv_goto (tgt := 2) hx hb dX2_onBoardAt_34 (by decide) ?_
      exact ih_i _ _ _ (by omega) ⟨hP, hD, hS, lv_sub hl [0, 1, 2] rfl, (by rw [← hx_i]; exact (zf_miss (by omega) (by simp [ta_hit, d_0, c_1])).symm)⟩
    · refine lv_aload_n hx hb dX2_onBoardAt_20 rfl (lv_at hl 1 rfl) ?_
      refine lv_iload_n hx hb dX2_onBoardAt_21 rfl (lv_at hl 0 rfl) ?_
      refine zq_cVi (As := [.int (nI i)]) (rest := []) (wc := (wTa a cI tk th hu od (nI N) ti)) (w1 := (wTa a cI tk th hu od (nI N) ti)) (wr := ([] : va_W)) (ws' := (wTa a cI tk th hu od (nI N) ti)) ⟨hx, hb, hml, hown, hts⟩ (c_X2_countAhead l dC dI a cI cZ cD tk th hu od N ti (by omega) i (by omega) H.size) (cwV 1 hts gX2_onBoardAt_X2_countAhead rfl rfl rfl (by decide +kernel) ⟨Nat.le_of_ble_eq_true rfl, Nat.le_of_ble_eq_true rfl⟩) hK hP hD hS hA [0, 1, 2, 3, 4] [] [0, 1, 2, 3, 4] rfl rfl rfl rfl (by decide) rfl rfl (ci := 2) rfl 0 rfl rfl hl.1 rfl (Nat.le_of_ble_eq_true rfl) dX2_onBoardAt_22 ⟨Nat.zero_le _, Nat.zero_le _⟩ (fun H locs hP hD hS => ?_)
      refine lv_iload_n hx hb dX2_onBoardAt_25 rfl (lv_at hl 2 rfl) ?_
      refine lv_icmp_ne (tgt := 31) hx hb dX2_onBoardAt_26 (by decide) (fun c_2 => ?_) (fun c_2 => ?_)
      · refine lv_iinc (v := nI (i + 1)) (lv' := [(2, .int (nI (i + 1))), (0, .ref (a 8)), (1, .int pl)]) hx hb dX2_onBoardAt_31 hl (k := 0) rfl (nI_add _ 1) (by decide) rfl (fun ls hl => ?_)
        refine lv_goto (tgt := 2) hx hb dX2_onBoardAt_34 (by decide) ?_
        exact ih_i _ _ _ (by omega) ⟨hP, hD, hS, lv_sub hl [0, 1, 2] rfl, (by rw [← hx_i]; exact (zf_miss (by omega) (by simp [ta_hit, d_0, c_1, c_2])).symm)⟩
      · refine lv_iload_n hx hb dX2_onBoardAt_29 rfl (lv_at hl 0 rfl) ?_
        exact W.iret (v := nI i) hx hb hr (zq_qi (by rw [← hx_i]; exact (zf_hit (by omega) (by simp [ta_hit, d_0, c_1, c_2])).symm) hP hK hD hS) hS.2.2 dX2_onBoardAt_30
