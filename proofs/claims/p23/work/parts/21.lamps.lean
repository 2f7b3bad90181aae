set_option maxHeartbeats 4000000 in
set_option maxRecDepth 100000 in
theorem c_X1_size (l : Launch) (dC : Nat → ClassId) (dI : Nat → Nat → Nat) (a : Nat → Nat) (cI cZ cD : ClassId) (ki pl tu le : Nat → Int32) (ch ca : Nat → UInt64) (N : Nat) (hN : N ≤ 40) (sz : Nat) : zq_Mi l yX1_size wsX1_size ({ frames := 0, cells := 0, slots := 0, locals := 0 } : Room) (dC, dI) (zq_T cI cZ cD) [.ref (a 1)] (wLa a cI cZ cD ki pl tu le ch ca (nI N)) (nI N) (wLa a cI cZ cD ki pl tu le ch ca (nI N)) sz := by
  refine Met.ofW (cc := cX1_size) (maxL := 1) (ret := (some .int)) (by decide) rfl ?_
  intro p e s m args below meth c s₁ B hml hv
  obtain ⟨rfl, hsz, hP, hK, hD0⟩ := hv
  have hx := B.exec
  have hb := B.bytes
  have hr := B.returns
  have hts := atoms_spec (ws := wsX1_size) B.pre
  have hown : s.vm.findClass RX1 = some m.cls := findClass_of_methodNamed B.named
  have hlocks := B.notSynchronized
  subst hsz
  have hD := hD0.self (sz := s.heap.size)
  generalize hAe : va_A (wLa a cI cZ cD ki pl tu le ch ca (nI N)) s.heap.size = A at hD ⊢
  have hA : ∀ q : Nat, s.heap.size ≤ q → A q := fun q h => by rw [← hAe]; exact Or.inr h
  have hS : va_S A s.heap s.heap [] := va_S.rf
  have hP : va_P (dC, dI) vwCl (wLa a cI cZ cD ki pl tu le ch ca (nI N)) s.heap := hP
  have hl := lv_entry ([.ref (a 1)]) (n := 1) (Nat.le_of_ble_eq_true rfl)
  rw [lg_entry_eq]
  generalize (lg_sl ([.ref (a 1)]) ++ List.replicate (1 - (lg_sl ([.ref (a 1)])).length) Slot.unset).toArray = ls at hl ⊢
  have hl : lv_has ls 1 [(0, .ref (a 1))] := hl
  have hf_32 := hts (.fieldLink RX1 32 "LampRoom$Lamps" "count" "I") (by decide +kernel)
  have hin_1 : ∀ w ∈ wsX10, w ∈ wsX1_size := by decide +kernel
  refine lv_aload_n hx hb dX1_size_0 rfl (lv_at hl 0 rfl) ?_
  refine va_get (D := (dC, dI)) (ci := 1) (v := .int (nI N)) (C := RX1) (T := TX1) (N := 7) hx hb hts hin_1 hown hK hP 0 rfl rfl 6 (by decide) hf_32 (fun _ h9 => h9) rfl dX1_size_1 ?_
  exact W.iret (v := nI N) hx hb hr (zq_qi rfl hP hK hD hS) hS.2.2 dX1_size_4

set_option maxHeartbeats 4000000 in
set_option maxRecDepth 100000 in
theorem c_X1_kindAt (l : Launch) (dC : Nat → ClassId) (dI : Nat → Nat → Nat) (a : Nat → Nat) (cI cZ cD : ClassId) (ki pl tu le : Nat → Int32) (ch ca : Nat → UInt64) (N : Nat) (hN : N ≤ 40) (j : Nat) (hj : j < 40) (sz : Nat) : zq_Mi l yX1_kindAt wsX1_kindAt ({ frames := 0, cells := 0, slots := 0, locals := 0 } : Room) (dC, dI) (zq_T cI cZ cD) [.ref (a 1), .int (nI j)] (wLa a cI cZ cD ki pl tu le ch ca (nI N)) (ki j) (wLa a cI cZ cD ki pl tu le ch ca (nI N)) sz := by
  refine Met.ofW (cc := cX1_kindAt) (maxL := 2) (ret := (some .int)) (by decide) rfl ?_
  intro p e s m args below meth c s₁ B hml hv
  obtain ⟨rfl, hsz, hP, hK, hD0⟩ := hv
  have hx := B.exec
  have hb := B.bytes
  have hr := B.returns
  have hts := atoms_spec (ws := wsX1_kindAt) B.pre
  have hown : s.vm.findClass RX1 = some m.cls := findClass_of_methodNamed B.named
  have hlocks := B.notSynchronized
  subst hsz
  have hD := hD0.self (sz := s.heap.size)
  generalize hAe : va_A (wLa a cI cZ cD ki pl tu le ch ca (nI N)) s.heap.size = A at hD ⊢
  have hA : ∀ q : Nat, s.heap.size ≤ q → A q := fun q h => by rw [← hAe]; exact Or.inr h
  have hS : va_S A s.heap s.heap [] := va_S.rf
  have hP : va_P (dC, dI) vwCl (wLa a cI cZ cD ki pl tu le ch ca (nI N)) s.heap := hP
  have hl := lv_entry ([.ref (a 1), .int (nI j)]) (n := 2) (Nat.le_of_ble_eq_true rfl)
  rw [lg_entry_eq]
  generalize (lg_sl ([.ref (a 1), .int (nI j)]) ++ List.replicate (2 - (lg_sl ([.ref (a 1), .int (nI j)])).length) Slot.unset).toArray = ls at hl ⊢
  have hl : lv_has ls 2 [(0, .ref (a 1)), (1, .int (nI j))] := hl
  have hf_9 := hts (.fieldLink RX1 9 "LampRoom$Lamps" "kinds" "[I") (by decide +kernel)
  have hin_1 : ∀ w ∈ wsX10, w ∈ wsX1_kindAt := by decide +kernel
  refine lv_aload_n hx hb dX1_kindAt_0 rfl (lv_at hl 0 rfl) ?_
  refine va_get (D := (dC, dI)) (ci := 1) (v := .ref (a 2)) (C := RX1) (T := TX1) (N := 7) hx hb hts hin_1 hown hK hP 0 rfl rfl 0 (by decide) hf_9 (fun _ h9 => h9) rfl dX1_kindAt_1 ?_
  refine lv_iload_n hx hb dX1_kindAt_4 rfl (lv_at hl 1 rfl) ?_
  refine zq_iald hx hb hK hP 1 0 rfl rfl (j := j) (by omega) (by decide) dX1_kindAt_5 ?_
  exact W.iret (v := ki j) hx hb hr (zq_qi rfl hP hK hD hS) hS.2.2 dX1_kindAt_6

set_option maxHeartbeats 4000000 in
set_option maxRecDepth 100000 in
theorem c_X1_placeAt (l : Launch) (dC : Nat → ClassId) (dI : Nat → Nat → Nat) (a : Nat → Nat) (cI cZ cD : ClassId) (ki pl tu le : Nat → Int32) (ch ca : Nat → UInt64) (N : Nat) (hN : N ≤ 40) (j : Nat) (hj : j < 40) (sz : Nat) : zq_Mi l yX1_placeAt wsX1_placeAt ({ frames := 0, cells := 0, slots := 0, locals := 0 } : Room) (dC, dI) (zq_T cI cZ cD) [.ref (a 1), .int (nI j)] (wLa a cI cZ cD ki pl tu le ch ca (nI N)) (pl j) (wLa a cI cZ cD ki pl tu le ch ca (nI N)) sz := by
  refine Met.ofW (cc := cX1_placeAt) (maxL := 2) (ret := (some .int)) (by decide) rfl ?_
  intro p e s m args below meth c s₁ B hml hv
  obtain ⟨rfl, hsz, hP, hK, hD0⟩ := hv
  have hx := B.exec
  have hb := B.bytes
  have hr := B.returns
  have hts := atoms_spec (ws := wsX1_placeAt) B.pre
  have hown : s.vm.findClass RX1 = some m.cls := findClass_of_methodNamed B.named
  have hlocks := B.notSynchronized
  subst hsz
  have hD := hD0.self (sz := s.heap.size)
  generalize hAe : va_A (wLa a cI cZ cD ki pl tu le ch ca (nI N)) s.heap.size = A at hD ⊢
  have hA : ∀ q : Nat, s.heap.size ≤ q → A q := fun q h => by rw [← hAe]; exact Or.inr h
  have hS : va_S A s.heap s.heap [] := va_S.rf
  have hP : va_P (dC, dI) vwCl (wLa a cI cZ cD ki pl tu le ch ca (nI N)) s.heap := hP
  have hl := lv_entry ([.ref (a 1), .int (nI j)]) (n := 2) (Nat.le_of_ble_eq_true rfl)
  rw [lg_entry_eq]
  generalize (lg_sl ([.ref (a 1), .int (nI j)]) ++ List.replicate (2 - (lg_sl ([.ref (a 1), .int (nI j)])).length) Slot.unset).toArray = ls at hl ⊢
  have hl : lv_has ls 2 [(0, .ref (a 1)), (1, .int (nI j))] := hl
  have hf_15 := hts (.fieldLink RX1 15 "LampRoom$Lamps" "places" "[I") (by decide +kernel)
  have hin_1 : ∀ w ∈ wsX10, w ∈ wsX1_placeAt := by decide +kernel
  refine lv_aload_n hx hb dX1_placeAt_0 rfl (lv_at hl 0 rfl) ?_
  refine va_get (D := (dC, dI)) (ci := 1) (v := .ref (a 3)) (C := RX1) (T := TX1) (N := 7) hx hb hts hin_1 hown hK hP 0 rfl rfl 1 (by decide) hf_15 (fun _ h9 => h9) rfl dX1_placeAt_1 ?_
  refine lv_iload_n hx hb dX1_placeAt_4 rfl (lv_at hl 1 rfl) ?_
  refine zq_iald hx hb hK hP 2 0 rfl rfl (j := j) (by omega) (by decide) dX1_placeAt_5 ?_
  exact W.iret (v := pl j) hx hb hr (zq_qi rfl hP hK hD hS) hS.2.2 dX1_placeAt_6

set_option maxHeartbeats 4000000 in
set_option maxRecDepth 100000 in
theorem c_X1_turnsAt (l : Launch) (dC : Nat → ClassId) (dI : Nat → Nat → Nat) (a : Nat → Nat) (cI cZ cD : ClassId) (ki pl tu le : Nat → Int32) (ch ca : Nat → UInt64) (N : Nat) (hN : N ≤ 40) (j : Nat) (hj : j < 40) (sz : Nat) : zq_Mi l yX1_turnsAt wsX1_turnsAt ({ frames := 0, cells := 0, slots := 0, locals := 0 } : Room) (dC, dI) (zq_T cI cZ cD) [.ref (a 1), .int (nI j)] (wLa a cI cZ cD ki pl tu le ch ca (nI N)) (tu j) (wLa a cI cZ cD ki pl tu le ch ca (nI N)) sz := by
  refine Met.ofW (cc := cX1_turnsAt) (maxL := 2) (ret := (some .int)) (by decide) rfl ?_
  intro p e s m args below meth c s₁ B hml hv
  obtain ⟨rfl, hsz, hP, hK, hD0⟩ := hv
  have hx := B.exec
  have hb := B.bytes
  have hr := B.returns
  have hts := atoms_spec (ws := wsX1_turnsAt) B.pre
  have hown : s.vm.findClass RX1 = some m.cls := findClass_of_methodNamed B.named
  have hlocks := B.notSynchronized
  subst hsz
  have hD := hD0.self (sz := s.heap.size)
  generalize hAe : va_A (wLa a cI cZ cD ki pl tu le ch ca (nI N)) s.heap.size = A at hD ⊢
  have hA : ∀ q : Nat, s.heap.size ≤ q → A q := fun q h => by rw [← hAe]; exact Or.inr h
  have hS : va_S A s.heap s.heap [] := va_S.rf
  have hP : va_P (dC, dI) vwCl (wLa a cI cZ cD ki pl tu le ch ca (nI N)) s.heap := hP
  have hl := lv_entry ([.ref (a 1), .int (nI j)]) (n := 2) (Nat.le_of_ble_eq_true rfl)
  rw [lg_entry_eq]
  generalize (lg_sl ([.ref (a 1), .int (nI j)]) ++ List.replicate (2 - (lg_sl ([.ref (a 1), .int (nI j)])).length) Slot.unset).toArray = ls at hl ⊢
  have hl : lv_has ls 2 [(0, .ref (a 1)), (1, .int (nI j))] := hl
  have hf_18 := hts (.fieldLink RX1 18 "LampRoom$Lamps" "turns" "[I") (by decide +kernel)
  have hin_1 : ∀ w ∈ wsX10, w ∈ wsX1_turnsAt := by decide +kernel
  refine lv_aload_n hx hb dX1_turnsAt_0 rfl (lv_at hl 0 rfl) ?_
  refine va_get (D := (dC, dI)) (ci := 1) (v := .ref (a 4)) (C := RX1) (T := TX1) (N := 7) hx hb hts hin_1 hown hK hP 0 rfl rfl 2 (by decide) hf_18 (fun _ h9 => h9) rfl dX1_turnsAt_1 ?_
  refine lv_iload_n hx hb dX1_turnsAt_4 rfl (lv_at hl 1 rfl) ?_
  refine zq_iald hx hb hK hP 3 0 rfl rfl (j := j) (by omega) (by decide) dX1_turnsAt_5 ?_
  exact W.iret (v := tu j) hx hb hr (zq_qi rfl hP hK hD hS) hS.2.2 dX1_turnsAt_6

set_option maxHeartbeats 4000000 in
set_option maxRecDepth 100000 in
theorem c_X1_chargeAt (l : Launch) (dC : Nat → ClassId) (dI : Nat → Nat → Nat) (a : Nat → Nat) (cI cZ cD : ClassId) (ki pl tu le : Nat → Int32) (ch ca : Nat → UInt64) (N : Nat) (hN : N ≤ 40) (j : Nat) (hj : j < 40) (sz : Nat) : zq_Md l yX1_chargeAt wsX1_chargeAt ({ frames := 0, cells := 0, slots := 0, locals := 0 } : Room) (dC, dI) (zq_T cI cZ cD) [.ref (a 1), .int (nI j)] (wLa a cI cZ cD ki pl tu le ch ca (nI N)) (ch j) (wLa a cI cZ cD ki pl tu le ch ca (nI N)) sz := by
  refine Met.ofW (cc := cX1_chargeAt) (maxL := 2) (ret := (some .double)) (by decide) rfl ?_
  intro p e s m args below meth c s₁ B hml hv
  obtain ⟨rfl, hsz, hP, hK, hD0⟩ := hv
  have hx := B.exec
  have hb := B.bytes
  have hr := B.returns
  have hts := atoms_spec (ws := wsX1_chargeAt) B.pre
  have hown : s.vm.findClass RX1 = some m.cls := findClass_of_methodNamed B.named
  have hlocks := B.notSynchronized
  subst hsz
  have hD := hD0.self (sz := s.heap.size)
  generalize hAe : va_A (wLa a cI cZ cD ki pl tu le ch ca (nI N)) s.heap.size = A at hD ⊢
  have hA : ∀ q : Nat, s.heap.size ≤ q → A q := fun q h => by rw [← hAe]; exact Or.inr h
  have hS : va_S A s.heap s.heap [] := va_S.rf
  have hP : va_P (dC, dI) vwCl (wLa a cI cZ cD ki pl tu le ch ca (nI N)) s.heap := hP
  have hl := lv_entry ([.ref (a 1), .int (nI j)]) (n := 2) (Nat.le_of_ble_eq_true rfl)
  rw [lg_entry_eq]
  generalize (lg_sl ([.ref (a 1), .int (nI j)]) ++ List.replicate (2 - (lg_sl ([.ref (a 1), .int (nI j)])).length) Slot.unset).toArray = ls at hl ⊢
  have hl : lv_has ls 2 [(0, .ref (a 1)), (1, .int (nI j))] := hl
  have hf_25 := hts (.fieldLink RX1 25 "LampRoom$Lamps" "charges" "[D") (by decide +kernel)
  have hin_1 : ∀ w ∈ wsX10, w ∈ wsX1_chargeAt := by decide +kernel
  refine lv_aload_n hx hb dX1_chargeAt_0 rfl (lv_at hl 0 rfl) ?_
  refine va_get (D := (dC, dI)) (ci := 1) (v := .ref (a 6)) (C := RX1) (T := TX1) (N := 7) hx hb hts hin_1 hown hK hP 0 rfl rfl 4 (by decide) hf_25 (fun _ h9 => h9) rfl dX1_chargeAt_1 ?_
  refine lv_iload_n hx hb dX1_chargeAt_4 rfl (lv_at hl 1 rfl) ?_
  refine zq_dald hx hb hK hP 5 2 rfl rfl (j := j) (by omega) (by decide) dX1_chargeAt_5 ?_
  exact W.dret (v := ch j) hx hb hr (zq_qd rfl hP hK hD hS) hS.2.2 dX1_chargeAt_6

set_option maxHeartbeats 4000000 in
set_option maxRecDepth 100000 in
theorem c_X1_capacityAt (l : Launch) (dC : Nat → ClassId) (dI : Nat → Nat → Nat) (a : Nat → Nat) (cI cZ cD : ClassId) (ki pl tu le : Nat → Int32) (ch ca : Nat → UInt64) (N : Nat) (hN : N ≤ 40) (j : Nat) (hj : j < 40) (sz : Nat) : zq_Md l yX1_capacityAt wsX1_capacityAt ({ frames := 0, cells := 0, slots := 0, locals := 0 } : Room) (dC, dI) (zq_T cI cZ cD) [.ref (a 1), .int (nI j)] (wLa a cI cZ cD ki pl tu le ch ca (nI N)) (ca j) (wLa a cI cZ cD ki pl tu le ch ca (nI N)) sz := by
  refine Met.ofW (cc := cX1_capacityAt) (maxL := 2) (ret := (some .double)) (by decide) rfl ?_
  intro p e s m args below meth c s₁ B hml hv
  obtain ⟨rfl, hsz, hP, hK, hD0⟩ := hv
  have hx := B.exec
  have hb := B.bytes
  have hr := B.returns
  have hts := atoms_spec (ws := wsX1_capacityAt) B.pre
  have hown : s.vm.findClass RX1 = some m.cls := findClass_of_methodNamed B.named
  have hlocks := B.notSynchronized
  subst hsz
  have hD := hD0.self (sz := s.heap.size)
  generalize hAe : va_A (wLa a cI cZ cD ki pl tu le ch ca (nI N)) s.heap.size = A at hD ⊢
  have hA : ∀ q : Nat, s.heap.size ≤ q → A q := fun q h => by rw [← hAe]; exact Or.inr h
  have hS : va_S A s.heap s.heap [] := va_S.rf
  have hP : va_P (dC, dI) vwCl (wLa a cI cZ cD ki pl tu le ch ca (nI N)) s.heap := hP
  have hl := lv_entry ([.ref (a 1), .int (nI j)]) (n := 2) (Nat.le_of_ble_eq_true rfl)
  rw [lg_entry_eq]
  generalize (lg_sl ([.ref (a 1), .int (nI j)]) ++ List.replicate (2 - (lg_sl ([.ref (a 1), .int (nI j)])).length) Slot.unset).toArray = ls at hl ⊢
  have hl : lv_has ls 2 [(0, .ref (a 1)), (1, .int (nI j))] := hl
  have hf_29 := hts (.fieldLink RX1 29 "LampRoom$Lamps" "capacities" "[D") (by decide +kernel)
  have hin_1 : ∀ w ∈ wsX10, w ∈ wsX1_capacityAt := by decide +kernel
  refine lv_aload_n hx hb dX1_capacityAt_0 rfl (lv_at hl 0 rfl) ?_
  refine va_get (D := (dC, dI)) (ci := 1) (v := .ref (a 7)) (C := RX1) (T := TX1) (N := 7) hx hb hts hin_1 hown hK hP 0 rfl rfl 5 (by decide) hf_29 (fun _ h9 => h9) rfl dX1_capacityAt_1 ?_
  refine lv_iload_n hx hb dX1_capacityAt_4 rfl (lv_at hl 1 rfl) ?_
  refine zq_dald hx hb hK hP 6 2 rfl rfl (j := j) (by omega) (by decide) dX1_capacityAt_5 ?_
  exact W.dret (v := ca j) hx hb hr (zq_qd rfl hP hK hD hS) hS.2.2 dX1_capacityAt_6

set_option maxHeartbeats 4000000 in
set_option maxRecDepth 100000 in
theorem c_X1_newCapacity (l : Launch) (k : Int32) : zq_Sd l yX1_newCapacity wsX1_newCapacity ({ frames := 0, cells := 0, slots := 0, locals := 0 } : Room) [.int k] (la_new k) := by
  refine Met.ofW (cc := cX1_newCapacity) (maxL := 1) (ret := (some .double)) (by decide) rfl ?_
  intro p e s m args below meth c s₁ B hml hv
  obtain ⟨rfl, -⟩ := hv
  have hx := B.exec
  have hb := B.bytes
  have hr := B.returns
  have hts := atoms_spec (ws := wsX1_newCapacity) B.pre
  have hown : s.vm.findClass RX1 = some m.cls := findClass_of_methodNamed B.named
  have hlocks := B.notSynchronized
  have hS : va_S (fun _ => False) s.heap s.heap [] := va_S.rf
  have hl := lv_entry ([.int k]) (n := 1) (Nat.le_of_ble_eq_true rfl)
  rw [lg_entry_eq]
  generalize (lg_sl ([.int k]) ++ List.replicate (1 - (lg_sl ([.int k])).length) Slot.unset).toArray = ls at hl ⊢
  have hl : lv_has ls 1 [(0, .int k)] := hl
  have hc_64 := hts (.constantDouble RX1 64 (4626322717216342016)) (by decide +kernel)
  have hc_62 := hts (.constantDouble RX1 62 (4625196817309499392)) (by decide +kernel)
  have hc_60 := hts (.constantDouble RX1 60 (4622945017495814144)) (by decide +kernel)
  refine lv_iload_n hx hb dX1_newCapacity_0 rfl (lv_at hl 0 rfl) ?_
  refine lv_if_ne (tgt := 10) hx hb dX1_newCapacity_1 (by decide) (fun c_0 => ?_) (fun c_0 => ?_)
  · refine lv_iload_n hx hb dX1_newCapacity_10 rfl (lv_at hl 0 rfl) ?_
    refine lv_iconst (v := 1) hx hb dX1_newCapacity_11 (by decide) ?_
    refine lv_icmp_ne (tgt := 21) hx hb dX1_newCapacity_12 (by decide) (fun c_1 => ?_) (fun c_1 => ?_)
    · refine lv_ldc2d hx hb hown hc_64 dX1_newCapacity_21 ?_
      exact W.dret (v := 4626322717216342016) hx hb hr (fun t ht hW => ⟨⟨_, (), rfl, (by first | with_reducible rfl | simp [la_new, c_0, c_1]), trivial⟩, hS.F ht⟩) (fun q hq => (hS.2.2 q hq).elim) dX1_newCapacity_24
    · refine lv_ldc2d hx hb hown hc_62 dX1_newCapacity_15 ?_
      refine lv_goto (tgt := 24) hx hb dX1_newCapacity_18 (by decide) ?_
      exact W.dret (v := 4625196817309499392) hx hb hr (fun t ht hW => ⟨⟨_, (), rfl, (by first | with_reducible rfl | simp [la_new, c_0, c_1]), trivial⟩, hS.F ht⟩) (fun q hq => (hS.2.2 q hq).elim) dX1_newCapacity_24
  · refine lv_ldc2d hx hb hown hc_60 dX1_newCapacity_4 ?_
    refine lv_goto (tgt := 24) hx hb dX1_newCapacity_7 (by decide) ?_
    exact W.dret (v := 4622945017495814144) hx hb hr (fun t ht hW => ⟨⟨_, (), rfl, (by first | with_reducible rfl | simp [la_new, c_0]), trivial⟩, hS.F ht⟩) (fun q hq => (hS.2.2 q hq).elim) dX1_newCapacity_24

set_option maxHeartbeats 4000000 in
set_option maxRecDepth 100000 in
theorem c_X1_isIssuable (l : Launch) (dC : Nat → ClassId) (dI : Nat → Nat → Nat) (a : Nat → Nat) (cI cZ cD : ClassId) (ki pl tu le : Nat → Int32) (ch ca : Nat → UInt64) (N : Nat) (hN : N ≤ 40) (j : Nat) (hj : j < 40) (k : Int32) (sz : Nat) : zq_Mi l yX1_isIssuable wsX1_isIssuable ({ frames := 0, cells := 0, slots := 0, locals := 0 } : Room) (dC, dI) (zq_T cI cZ cD) [.ref (a 1), .int (nI j), .int k] (wLa a cI cZ cD ki pl tu le ch ca (nI N)) (zb (la_is ki pl ch k j)) (wLa a cI cZ cD ki pl tu le ch ca (nI N)) sz := by
  refine Met.ofW (cc := cX1_isIssuable) (maxL := 3) (ret := (some .boolean)) (by decide) rfl ?_
  intro p e s m args below meth c s₁ B hml hv
  obtain ⟨rfl, hsz, hP, hK, hD0⟩ := hv
  have hx := B.exec
  have hb := B.bytes
  have hr := B.returns
  have hts := atoms_spec (ws := wsX1_isIssuable) B.pre
  have hown : s.vm.findClass RX1 = some m.cls := findClass_of_methodNamed B.named
  have hlocks := B.notSynchronized
  subst hsz
  have hD := hD0.self (sz := s.heap.size)
  generalize hAe : va_A (wLa a cI cZ cD ki pl tu le ch ca (nI N)) s.heap.size = A at hD ⊢
  have hA : ∀ q : Nat, s.heap.size ≤ q → A q := fun q h => by rw [← hAe]; exact Or.inr h
  have hS : va_S A s.heap s.heap [] := va_S.rf
  have hP : va_P (dC, dI) vwCl (wLa a cI cZ cD ki pl tu le ch ca (nI N)) s.heap := hP
  have hl := lv_entry ([.ref (a 1), .int (nI j), .int k]) (n := 3) (Nat.le_of_ble_eq_true rfl)
  rw [lg_entry_eq]
  generalize (lg_sl ([.ref (a 1), .int (nI j), .int k]) ++ List.replicate (3 - (lg_sl ([.ref (a 1), .int (nI j), .int k])).length) Slot.unset).toArray = ls at hl ⊢
  have hl : lv_has ls 3 [(0, .ref (a 1)), (1, .int (nI j)), (2, .int k)] := hl
  have hf_9 := hts (.fieldLink RX1 9 "LampRoom$Lamps" "kinds" "[I") (by decide +kernel)
  have hin_1 : ∀ w ∈ wsX10, w ∈ wsX1_isIssuable := by decide +kernel
  have hf_15 := hts (.fieldLink RX1 15 "LampRoom$Lamps" "places" "[I") (by decide +kernel)
  have hf_25 := hts (.fieldLink RX1 25 "LampRoom$Lamps" "charges" "[D") (by decide +kernel)
  have hc_52 := hts (.constantDouble RX1 52 (4621256167635550208)) (by decide +kernel)
  refine lv_aload_n hx hb dX1_isIssuable_0 rfl (lv_at hl 0 rfl) ?_
  refine va_get (D := (dC, dI)) (ci := 1) (v := .ref (a 2)) (C := RX1) (T := TX1) (N := 7) hx hb hts hin_1 hown hK hP 0 rfl rfl 0 (by decide) hf_9 (fun _ h9 => h9) rfl dX1_isIssuable_1 ?_
  refine lv_iload_n hx hb dX1_isIssuable_4 rfl (lv_at hl 1 rfl) ?_
  refine zq_iald hx hb hK hP 1 0 rfl rfl (j := j) (by omega) (by decide) dX1_isIssuable_5 ?_
  refine lv_iload_n hx hb dX1_isIssuable_6 rfl (lv_at hl 2 rfl) ?_
  refine lv_icmp_ne (tgt := 36) hx hb dX1_isIssuable_7 (by decide) (fun c_0 => ?_) (fun c_0 => ?_)
  · refine lv_iconst (v := 0) hx hb dX1_isIssuable_36 (by decide) ?_
    exact W.zret (v := 0) hx hb hr (by rfl) (zq_qi (by first | with_reducible rfl | simp [zb, la_is, la_rd, la_ge9, c_0]) hP hK hD hS) hS.2.2 dX1_isIssuable_37
  · refine lv_aload_n hx hb dX1_isIssuable_10 rfl (lv_at hl 0 rfl) ?_
    refine va_get (D := (dC, dI)) (ci := 1) (v := .ref (a 3)) (C := RX1) (T := TX1) (N := 7) hx hb hts hin_1 hown hK hP 0 rfl rfl 1 (by decide) hf_15 (fun _ h9 => h9) rfl dX1_isIssuable_11 ?_
    refine lv_iload_n hx hb dX1_isIssuable_14 rfl (lv_at hl 1 rfl) ?_
    refine zq_iald hx hb hK hP 2 0 rfl rfl (j := j) (by omega) (by decide) dX1_isIssuable_15 ?_
    refine lv_if_ne (tgt := 36) hx hb dX1_isIssuable_16 (by decide) (fun c_1 => ?_) (fun c_1 => ?_)
    · refine lv_iconst (v := 0) hx hb dX1_isIssuable_36 (by decide) ?_
      exact W.zret (v := 0) hx hb hr (by rfl) (zq_qi (by first | with_reducible rfl | simp [zb, la_is, la_rd, la_ge9, c_0, c_1]) hP hK hD hS) hS.2.2 dX1_isIssuable_37
    · refine lv_aload_n hx hb dX1_isIssuable_19 rfl (lv_at hl 0 rfl) ?_
      refine va_get (D := (dC, dI)) (ci := 1) (v := .ref (a 6)) (C := RX1) (T := TX1) (N := 7) hx hb hts hin_1 hown hK hP 0 rfl rfl 4 (by decide) hf_25 (fun _ h9 => h9) rfl dX1_isIssuable_20 ?_
      refine lv_iload_n hx hb dX1_isIssuable_23 rfl (lv_at hl 1 rfl) ?_
      refine zq_dald hx hb hK hP 5 2 rfl rfl (j := j) (by omega) (by decide) dX1_isIssuable_24 ?_
      refine lv_ldc2d hx hb hown hc_52 dX1_isIssuable_25 ?_
      refine lv_dcmp hx hb dX1_isIssuable_28 ?_
      refine lv_if_lt (tgt := 36) hx hb dX1_isIssuable_29 (by decide) (fun c_2 => ?_) (fun c_2 => ?_)
      · refine lv_iconst (v := 0) hx hb dX1_isIssuable_36 (by decide) ?_
        exact W.zret (v := 0) hx hb hr (by rfl) (zq_qi (by first | with_reducible rfl | simp [zb, la_is, la_rd, la_ge9, c_0, c_1, c_2]) hP hK hD hS) hS.2.2 dX1_isIssuable_37
      · refine lv_iconst (v := 1) hx hb dX1_isIssuable_32 (by decide) ?_
        refine lv_goto (tgt := 37) hx hb dX1_isIssuable_33 (by decide) ?_
        exact W.zret (v := 1) hx hb hr (by rfl) (zq_qi (by first | with_reducible rfl | simp [zb, la_is, la_rd, la_ge9, c_0, c_1, c_2]) hP hK hD hS) hS.2.2 dX1_isIssuable_37

set_option maxHeartbeats 4000000 in
set_option maxRecDepth 100000 in
theorem c_X1_countIssuable (l : Launch) (dC : Nat → ClassId) (dI : Nat → Nat → Nat) (a : Nat → Nat) (cI cZ cD : ClassId) (ki pl tu le : Nat → Int32) (ch ca : Nat → UInt64) (N : Nat) (hN : N ≤ 40) (k : Int32) (sz : Nat) : zq_Mi l yX1_countIssuable wsX1_countIssuable ({ frames := 1, cells := 0, slots := 0, locals := 22 } : Room) (dC, dI) (zq_T cI cZ cD) [.ref (a 1), .int k] (wLa a cI cZ cD ki pl tu le ch ca (nI N)) (nI (zf_cnt (la_is ki pl ch k) N)) (wLa a cI cZ cD ki pl tu le ch ca (nI N)) sz := by
  refine Met.ofW (cc := cX1_countIssuable) (maxL := 4) (ret := (some .int)) (by decide) rfl ?_
  intro p e s m args below meth c s₁ B hml hv
  obtain ⟨rfl, hsz, hP, hK, hD0⟩ := hv
  have hx := B.exec
  have hb := B.bytes
  have hr := B.returns
  have hts := atoms_spec (ws := wsX1_countIssuable) B.pre
  have hown : s.vm.findClass RX1 = some m.cls := findClass_of_methodNamed B.named
  have hlocks := B.notSynchronized
  subst hsz
  have hD := hD0.self (sz := s.heap.size)
  generalize hAe : va_A (wLa a cI cZ cD ki pl tu le ch ca (nI N)) s.heap.size = A at hD ⊢
  have hA : ∀ q : Nat, s.heap.size ≤ q → A q := fun q h => by rw [← hAe]; exact Or.inr h
  have hS : va_S A s.heap s.heap [] := va_S.rf
  have hP : va_P (dC, dI) vwCl (wLa a cI cZ cD ki pl tu le ch ca (nI N)) s.heap := hP
  have hl := lv_entry ([.ref (a 1), .int k]) (n := 4) (Nat.le_of_ble_eq_true rfl)
  rw [lg_entry_eq]
  generalize (lg_sl ([.ref (a 1), .int k]) ++ List.replicate (4 - (lg_sl ([.ref (a 1), .int k])).length) Slot.unset).toArray = ls at hl ⊢
  have hl : lv_has ls 4 [(0, .ref (a 1)), (1, .int k)] := hl
  have hf_32 := hts (.fieldLink RX1 32 "LampRoom$Lamps" "count" "I") (by decide +kernel)
  have hin_1 : ∀ w ∈ wsX10, w ∈ wsX1_countIssuable := by decide +kernel
  refine lv_iconst (v := 0) hx hb dX1_countIssuable_0 (by decide) ?_
  refine lv_istore_n (lv' := [(2, .int 0), (0, .ref (a 1)), (1, .int k)]) hx hb dX1_countIssuable_1 rfl hl (by decide) rfl (fun ls hl => ?_)
  refine lv_iconst (v := 0) hx hb dX1_countIssuable_2 (by decide) ?_
  refine lv_istore_n (lv' := [(3, .int 0), (2, .int 0), (0, .ref (a 1)), (1, .int k)]) hx hb dX1_countIssuable_3 rfl hl (by decide) rfl (fun ls hl => ?_)
  refine zq_loop 4 N (fun i H locs ls => va_P (dC, dI) vwCl (wLa a cI cZ cD ki pl tu le ch ca (nI N)) H ∧ va_D A (wLa a cI cZ cD ki pl tu le ch ca (nI N)) ∧ va_S A s.heap H locs ∧ lv_has ls 4 [(2, .int (nI (zf_cnt (la_is ki pl ch k) i))), (3, .int (nI i)), (0, .ref (a 1)), (1, .int k)]) ?_ 0 (by omega) _ _ _ ⟨hP, hD, hS, lv_sub hl [1, 0, 2, 3] rfl⟩
  intro i hi_i ih_i H locs ls hh
  obtain ⟨hP, hD, hS, hl⟩ := hh
  refine lv_iload_n hx hb dX1_countIssuable_4 rfl (lv_at hl 1 rfl) ?_
  refine lv_aload_n hx hb dX1_countIssuable_5 rfl (lv_at hl 2 rfl) ?_
  refine va_get (D := (dC, dI)) (ci := 1) (v := .int (nI N)) (C := RX1) (T := TX1) (N := 7) hx hb hts hin_1 hown hK hP 0 rfl rfl 6 (by decide) hf_32 (fun _ h9 => h9) rfl dX1_countIssuable_6 ?_
  refine lv_icmp_ge (tgt := 30) hx hb dX1_countIssuable_9 (by decide) (fun c_0 => ?_) (fun c_0 => ?_)
  · have d_0 := (nI_leI (a := N) (b := i) (by omega) (by omega)).mp c_0
    have ei_i : i = N := by omega
    refine lv_iload_n hx hb dX1_countIssuable_30 rfl (lv_at hl 0 rfl) ?_
    exact W.iret (v := nI (zf_cnt (la_is ki pl ch k) i)) hx hb hr (zq_qi (by first | with_reducible rfl | simp [d_0, ei_i]) hP hK hD hS) hS.2.2 dX1_countIssuable_31
  · have d_0 := Nat.not_le.mp (fun h => c_0 ((nI_leI (a := N) (b := i) (by omega) (by omega)).mpr h))
    refine lv_aload_n hx hb dX1_countIssuable_12 rfl (lv_at hl 2 rfl) ?_
    refine lv_iload_n hx hb dX1_countIssuable_13 rfl (lv_at hl 1 rfl) ?_
    refine lv_iload_n hx hb dX1_countIssuable_14 rfl (lv_at hl 3 rfl) ?_
    refine zq_cVi (As := [.int (nI i), .int k]) (rest := []) (wc := (wLa a cI cZ cD ki pl tu le ch ca (nI N))) (w1 := (wLa a cI cZ cD ki pl tu le ch ca (nI N))) (wr := ([] : va_W)) (ws' := (wLa a cI cZ cD ki pl tu le ch ca (nI N))) ⟨hx, hb, hml, hown, hts⟩ (c_X1_isIssuable l dC dI a cI cZ cD ki pl tu le ch ca N (by omega) i (by omega) k H.size) (cwV 2 hts gX1_countIssuable_X1_isIssuable rfl rfl rfl (by decide +kernel) ⟨Nat.le_of_ble_eq_true rfl, Nat.le_of_ble_eq_true rfl⟩) hK hP hD hS hA [0, 1, 2, 3, 4, 5, 6] [] [0, 1, 2, 3, 4, 5, 6] rfl rfl rfl rfl (by decide) rfl rfl (ci := 1) rfl 0 rfl rfl hl.1 rfl (Nat.le_of_ble_eq_true rfl) dX1_countIssuable_15 ⟨Nat.zero_le _, Nat.zero_le _⟩ (fun H locs hP hD hS => ?_)
    refine lv_if_eq (tgt := 24) hx hb dX1_countIssuable_18 (by decide) (fun c_1 => ?_) (fun c_1 => ?_)
    · have d_1 := zb_eq c_1
      refine lv_iinc (v := nI (i + 1)) (lv' := [(3, .int (nI (i + 1))), (2, .int (nI (zf_cnt (la_is ki pl ch k) i))), (0, .ref (a 1)), (1, .int k)]) hx hb dX1_countIssuable_24 hl (k := 1) rfl (nI_add _ 1) (by decide) rfl (fun ls hl => ?_)
      refine lv_goto (tgt := 4) hx hb dX1_countIssuable_27 (by decide) ?_
      have e_2 : (nI (zf_cnt (la_is ki pl ch k) (i + 1))) = (nI (zf_cnt (la_is ki pl ch k) i)) := by rw [zf_cnt_f d_1]
      exact ih_i _ _ _ (by omega) ⟨(by (try rw [e_2]); exact hP), (by (try rw [e_2]); exact hD), hS, (by (try rw [e_2]); exact lv_sub hl [1, 0, 2, 3] rfl)⟩
    · have d_1 := zb_ne c_1
      refine lv_iinc (v := nI ((zf_cnt (la_is ki pl ch k) i) + 1)) (lv' := [(2, .int (nI ((zf_cnt (la_is ki pl ch k) i) + 1))), (3, .int (nI i)), (0, .ref (a 1)), (1, .int k)]) hx hb dX1_countIssuable_21 hl (k := 0) rfl (nI_add _ 1) (by decide) rfl (fun ls hl => ?_)
      refine lv_iinc (v := nI (i + 1)) (lv' := [(3, .int (nI (i + 1))), (2, .int (nI ((zf_cnt (la_is ki pl ch k) i) + 1))), (0, .ref (a 1)), (1, .int k)]) hx hb dX1_countIssuable_24 hl (k := 1) rfl (nI_add _ 1) (by decide) rfl (fun ls hl => ?_)
      refine lv_goto (tgt := 4) hx hb dX1_countIssuable_27 (by decide) ?_
      have e_3 : (nI (zf_cnt (la_is ki pl ch k) (i + 1))) = (nI ((zf_cnt (la_is ki pl ch k) i) + 1)) := by rw [zf_cnt_t d_1]
      exact ih_i _ _ _ (by omega) ⟨(by (try rw [e_3]); exact hP), (by (try rw [e_3]); exact hD), hS, (by (try rw [e_3]); exact lv_sub hl [1, 0, 2, 3] rfl)⟩

set_option maxHeartbeats 4000000 in
set_option maxRecDepth 100000 in
theorem c_X1_hangNew (l : Launch) (dC : Nat → ClassId) (dI : Nat → Nat → Nat) (a : Nat → Nat) (cI cZ cD : ClassId) (ki pl tu le : Nat → Int32) (ch ca : Nat → UInt64) (N : Nat) (hN : N ≤ 40) (k : Int32) (hN1 : N < 40) (sz : Nat) : zq_Mi l yX1_hangNew wsX1_hangNew ({ frames := 1, cells := 0, slots := 0, locals := 20 } : Room) (dC, dI) (zq_T cI cZ cD) [.ref (a 1), .int k] (wLa a cI cZ cD ki pl tu le ch ca (nI N)) (nI N) (wLa a cI cZ cD (upd ki N k) (upd pl N 0) tu le (vf_upd ch N (la_new k)) (vf_upd ca N (la_new k)) (nI (N + 1))) sz := by
  refine Met.ofW (cc := cX1_hangNew) (maxL := 3) (ret := (some .int)) (by decide) rfl ?_
  intro p e s m args below meth c s₁ B hml hv
  obtain ⟨rfl, hsz, hP, hK, hD0⟩ := hv
  have hx := B.exec
  have hb := B.bytes
  have hr := B.returns
  have hts := atoms_spec (ws := wsX1_hangNew) B.pre
  have hown : s.vm.findClass RX1 = some m.cls := findClass_of_methodNamed B.named
  have hlocks := B.notSynchronized
  subst hsz
  have hD := hD0.self (sz := s.heap.size)
  generalize hAe : va_A (wLa a cI cZ cD ki pl tu le ch ca (nI N)) s.heap.size = A at hD ⊢
  have hA : ∀ q : Nat, s.heap.size ≤ q → A q := fun q h => by rw [← hAe]; exact Or.inr h
  have hS : va_S A s.heap s.heap [] := va_S.rf
  have hP : va_P (dC, dI) vwCl (wLa a cI cZ cD ki pl tu le ch ca (nI N)) s.heap := hP
  have hl := lv_entry ([.ref (a 1), .int k]) (n := 3) (Nat.le_of_ble_eq_true rfl)
  rw [lg_entry_eq]
  generalize (lg_sl ([.ref (a 1), .int k]) ++ List.replicate (3 - (lg_sl ([.ref (a 1), .int k])).length) Slot.unset).toArray = ls at hl ⊢
  have hl : lv_has ls 3 [(0, .ref (a 1)), (1, .int k)] := hl
  have hf_32 := hts (.fieldLink RX1 32 "LampRoom$Lamps" "count" "I") (by decide +kernel)
  have hin_1 : ∀ w ∈ wsX10, w ∈ wsX1_hangNew := by decide +kernel
  have hf_9 := hts (.fieldLink RX1 9 "LampRoom$Lamps" "kinds" "[I") (by decide +kernel)
  have hf_15 := hts (.fieldLink RX1 15 "LampRoom$Lamps" "places" "[I") (by decide +kernel)
  have hf_29 := hts (.fieldLink RX1 29 "LampRoom$Lamps" "capacities" "[D") (by decide +kernel)
  have hf_25 := hts (.fieldLink RX1 25 "LampRoom$Lamps" "charges" "[D") (by decide +kernel)
  refine lv_aload_n hx hb dX1_hangNew_0 rfl (lv_at hl 0 rfl) ?_
  refine va_get (D := (dC, dI)) (ci := 1) (v := .int (nI N)) (C := RX1) (T := TX1) (N := 7) hx hb hts hin_1 hown hK hP 0 rfl rfl 6 (by decide) hf_32 (fun _ h9 => h9) rfl dX1_hangNew_1 ?_
  refine lv_istore_n (lv' := [(2, .int (nI N)), (0, .ref (a 1)), (1, .int k)]) hx hb dX1_hangNew_4 rfl hl (by decide) rfl (fun ls hl => ?_)
  refine lv_aload_n hx hb dX1_hangNew_5 rfl (lv_at hl 1 rfl) ?_
  refine va_get (D := (dC, dI)) (ci := 1) (v := .ref (a 2)) (C := RX1) (T := TX1) (N := 7) hx hb hts hin_1 hown hK hP 0 rfl rfl 0 (by decide) hf_9 (fun _ h9 => h9) rfl dX1_hangNew_6 ?_
  refine lv_iload_n hx hb dX1_hangNew_9 rfl (lv_at hl 0 rfl) ?_
  refine lv_iload_n hx hb dX1_hangNew_10 rfl (lv_at hl 2 rfl) ?_
  refine zq_iast hx hb hK hP hD hS 1 0 rfl rfl (j := N) (by omega) (by decide) (wLa a cI cZ cD (upd ki N k) pl tu le ch ca (nI N)) rfl dX1_hangNew_11 (fun H locs hP hD hS => ?_)
  refine lv_aload_n hx hb dX1_hangNew_12 rfl (lv_at hl 1 rfl) ?_
  refine va_get (D := (dC, dI)) (ci := 1) (v := .ref (a 3)) (C := RX1) (T := TX1) (N := 7) hx hb hts hin_1 hown hK hP 0 rfl rfl 1 (by decide) hf_15 (fun _ h9 => h9) rfl dX1_hangNew_13 ?_
  refine lv_iload_n hx hb dX1_hangNew_16 rfl (lv_at hl 0 rfl) ?_
  refine lv_iconst (v := 0) hx hb dX1_hangNew_17 (by decide) ?_
  refine zq_iast hx hb hK hP hD hS 2 0 rfl rfl (j := N) (by omega) (by decide) (wLa a cI cZ cD (upd ki N k) (upd pl N 0) tu le ch ca (nI N)) rfl dX1_hangNew_18 (fun H locs hP hD hS => ?_)
  refine lv_aload_n hx hb dX1_hangNew_19 rfl (lv_at hl 1 rfl) ?_
  refine va_get (D := (dC, dI)) (ci := 1) (v := .ref (a 7)) (C := RX1) (T := TX1) (N := 7) hx hb hts hin_1 hown hK hP 0 rfl rfl 5 (by decide) hf_29 (fun _ h9 => h9) rfl dX1_hangNew_20 ?_
  refine lv_iload_n hx hb dX1_hangNew_23 rfl (lv_at hl 0 rfl) ?_
  refine lv_iload_n hx hb dX1_hangNew_24 rfl (lv_at hl 2 rfl) ?_
  refine zq_cSd (As := [.int k]) (rest := [.int (nI N), .ref (a 7)]) ⟨hx, hb, hml, hown, hts⟩ (c_X1_newCapacity l k) (va_cwS 1 hts gX1_hangNew_X1_newCapacity rfl rfl rfl (by decide +kernel) ⟨Nat.le_of_ble_eq_true rfl, Nat.le_of_ble_eq_true rfl⟩) hP hS rfl hl.1 rfl (Nat.le_of_ble_eq_true rfl) dX1_hangNew_25 ⟨Nat.zero_le _, Nat.zero_le _⟩ (fun H locs hP hS => ?_)
  refine zq_dast hx hb hK hP hD hS 6 2 rfl rfl (j := N) (by omega) (by decide) (wLa a cI cZ cD (upd ki N k) (upd pl N 0) tu le ch (vf_upd ca N (la_new k)) (nI N)) rfl dX1_hangNew_28 (fun H locs hP hD hS => ?_)
  refine lv_aload_n hx hb dX1_hangNew_29 rfl (lv_at hl 1 rfl) ?_
  refine va_get (D := (dC, dI)) (ci := 1) (v := .ref (a 6)) (C := RX1) (T := TX1) (N := 7) hx hb hts hin_1 hown hK hP 0 rfl rfl 4 (by decide) hf_25 (fun _ h9 => h9) rfl dX1_hangNew_30 ?_
  refine lv_iload_n hx hb dX1_hangNew_33 rfl (lv_at hl 0 rfl) ?_
  refine lv_aload_n hx hb dX1_hangNew_34 rfl (lv_at hl 1 rfl) ?_
  refine va_get (D := (dC, dI)) (ci := 1) (v := .ref (a 7)) (C := RX1) (T := TX1) (N := 7) hx hb hts hin_1 hown hK hP 0 rfl rfl 5 (by decide) hf_29 (fun _ h9 => h9) rfl dX1_hangNew_35 ?_
  refine lv_iload_n hx hb dX1_hangNew_38 rfl (lv_at hl 0 rfl) ?_
  refine zq_dald hx hb hK hP 6 2 rfl rfl (j := N) (by omega) (by decide) dX1_hangNew_39 ?_
  rw [zq_vus]
  refine zq_dast hx hb hK hP hD hS 5 2 rfl rfl (j := N) (by omega) (by decide) (wLa a cI cZ cD (upd ki N k) (upd pl N 0) tu le (vf_upd ch N (la_new k)) (vf_upd ca N (la_new k)) (nI N)) rfl dX1_hangNew_40 (fun H locs hP hD hS => ?_)
  refine lv_aload_n hx hb dX1_hangNew_41 rfl (lv_at hl 1 rfl) ?_
  refine lv_dup hx hb dX1_hangNew_42 rfl ?_
  refine va_get (D := (dC, dI)) (ci := 1) (v := .int (nI N)) (C := RX1) (T := TX1) (N := 7) hx hb hts hin_1 hown hK hP 0 rfl rfl 6 (by decide) hf_32 (fun _ h9 => h9) rfl dX1_hangNew_43 ?_
  refine lv_iconst (v := 1) hx hb dX1_hangNew_46 (by decide) ?_
  refine t_iadd hx hb dX1_hangNew_47 (v := nI (N + 1)) (nI_1 _) ?_
  refine va_put (D := (dC, dI)) (ci := 1) (v := .int (nI (N + 1))) (ty := .int) (C := RX1) (T := TX1) (N := 7) hx hb hts hin_1 tyX1 tyX1_ok nmX1 hown hK hP hD hS 0 rfl rfl 6 (by decide) hf_32 (fun _ h9 => h9) rfl (by decide +kernel) rfl rfl (Nat.le_of_ble_eq_true rfl) dX1_hangNew_48 (fun H locs hP hD hS => ?_)
  have hP : va_P (dC, dI) vwCl (wLa a cI cZ cD (upd ki N k) (upd pl N 0) tu le (vf_upd ch N (la_new k)) (vf_upd ca N (la_new k)) (nI (N + 1))) H := hP
  have hD : va_D A (wLa a cI cZ cD (upd ki N k) (upd pl N 0) tu le (vf_upd ch N (la_new k)) (vf_upd ca N (la_new k)) (nI (N + 1))) := hD
  refine lv_iload_n hx hb dX1_hangNew_51 rfl (lv_at hl 0 rfl) ?_
  exact W.iret (v := nI N) hx hb hr (zq_qi rfl hP hK hD hS) hS.2.2 dX1_hangNew_52

