set_option maxHeartbeats 4000000 in
set_option maxRecDepth 100000 in
theorem c_X1_size (l : Launch) (dC : Nat → ClassId) (dI : Nat → Nat → Nat) (a : Nat → Nat) (cI cZ cD : ClassId) (ki pl tu le : Nat → Int32) (ch ca : Nat → UInt64) (N : Nat) (hN : N ≤ 40) (sz : Nat) : zq_Mi l yX1_size wsX1_size ({ frames := 0, cells := 0, slots := 0, locals := 0 } : Room) (dC, dI) (zq_T cI cZ cD) [.ref (a 1)] (wLa a cI cZ cD ki pl tu le ch ca (nI N)) (nI N) (wLa a cI cZ cD ki pl tu le ch ca (nI N)) sz := by
  refine Met.ofW (cc := cX1_size) (maxL := 1) (ret := (some .int)) (by decide) rfl ?_
  intro p e s m args below meth c s₁ B hml hv
  obtain ⟨rfl, hsz, hP, hK, hD0⟩ := hv
  have hx := B.exec
  have hb := B.bytes
  have hr := B.returns
  have hts := atoms_spec (ws := wsX1_size) B.pre
  have hown : s.vm.findClass RX1 = some m.cls := findClass_of_methodNamed B.named
  have hlocks := B.notSynchronized
  subst hsz
  have hD := hD0.self (sz := s.heap.size)
  generalize hAe : va_A (wLa a cI cZ cD ki pl tu le ch ca (nI N)) s.heap.size = A at hD ⊢
  have hA : ∀ q : Nat, s.heap.size ≤ q → A q := fun q h => by rw [← hAe]; exact Or.inr h
  have hS : va_S A s.heap s.heap [] := va_S.rf
  have hP : va_P (dC, dI) vwCl (wLa a cI cZ cD ki pl tu le ch ca (nI N)) s.heap := hP
  have hl := lv_entry ([.ref (a 1)]) (n := 1) (Nat.le_of_ble_eq_true rfl)
  rw [lg_entry_eq]
  generalize (lg_sl ([.ref (a 1)]) ++ List.replicate (1 - (lg_sl ([.ref (a 1)])).length) Slot.unset).toArray = ls at hl ⊢
  have hl : lv_has ls 1 [(0, .ref (a 1))] := hl
  have hf_32 := hts (.fieldLink RX1 32 "LampRoom$Lamps" "count" "I") (by decide +kernel)
  have hin_1 : ∀ w ∈ wsX10, w ∈ wsX1_size := by decide +kernel
  refine lv_aload_n hx hb dX1_size_0 rfl (lv_at hl 0 rfl) ?_
  refine va_get (D := (dC, dI)) (ci := 1) (v := .int (nI N)) (C := RX1) (T := TX1) (N := 7) hx hb hts hin_1 hown hK hP 0 rfl rfl 6 (by decide) hf_32 (fun _ h9 => h9) rfl dX1_size_1 ?_
  exact W.iret (v := nI N) hx hb hr (zq_qi rfl hP hK hD hS) hS.2.2 dX1_size_4

set_option maxHeartbeats 4000000 in
set_option maxRecDepth 100000 in
theorem c_X1_kindAt (l : Launch) (dC : Nat → ClassId) (dI : Nat → Nat → Nat) (a : Nat → Nat) (cI cZ cD : ClassId) (ki pl tu le : Nat → Int32) (ch ca : Nat → UInt64) (N : Nat) (hN : N ≤ 40) (j : Nat) (hj : j < 40) (sz : Nat) : zq_Mi l yX1_kindAt wsX1_kindAt ({ frames := 0, cells := 0, slots := 0, locals := 0 } : Room) (dC, dI) (zq_T cI cZ cD) [.ref (a 1), .int (nI j)] (wLa a cI cZ cD ki pl tu le ch ca (nI N)) (ki j) (wLa a cI cZ cD ki pl tu le ch ca (nI N)) sz := by
  refine Met.ofW (cc := cX1_kindAt) (maxL := 2) (ret := (some .int)) (by decide) rfl ?_
  intro p e s m args below meth c s₁ B hml hv
  obtain ⟨rfl, hsz, hP, hK, hD0⟩ := hv
  have hx := B.exec
  have hb := B.bytes
  have hr := B.returns
  have hts := atoms_spec (ws := wsX1_kindAt) B.pre
  have hown : s.vm.findClass RX1 = some m.cls := findClass_of_methodNamed B.named
  have hlocks := B.notSynchronized
  subst hsz
  have hD := hD0.self (sz := s.heap.size)
  generalize hAe : va_A (wLa a cI cZ cD ki pl tu le ch ca (nI N)) s.heap.size = A at hD ⊢
  have hA : ∀ q : Nat, s.heap.size ≤ q → A q := fun q h => by rw [← hAe]; exact Or.inr h
  have hS : va_S A s.heap s.heap [] := va_S.rf
  have hP : va_P (dC, dI) vwCl (wLa a cI cZ cD ki pl tu le ch ca (nI N)) s.heap := hP
  have hl := lv_entry ([.ref (a 1), .int (nI j)]) (n := 2) (Nat.le_of_ble_eq_true rfl)
  rw [lg_entry_eq]
  generalize (lg_sl ([.ref (a 1), .int (nI j)]) ++ List.replicate (2 - (lg_sl ([.ref (a 1), .int (nI j)])).length) Slot.unset).toArray = ls at hl ⊢
  have hl : lv_has ls 2 [(0, .ref (a 1)), (1, .int (nI j))] := hl
  have hf_9 := hts (.fieldLink RX1 9 "LampRoom$Lamps" "kinds" "[I") (by decide +kernel)
  have hin_1 : ∀ w ∈ wsX10, w ∈ wsX1_kindAt := by decide +kernel
  refine lv_aload_n hx hb dX1_kindAt_0 rfl (lv_at hl 0 rfl) ?_
  refine va_get (D := (dC, dI)) (ci := 1) (v := .ref (a 2)) (C := RX1) (T := TX1) (N := 7) hx hb hts hin_1 hown hK hP 0 rfl rfl 0 (by decide) hf_9 (fun _ h9 => h9) rfl dX1_kindAt_1 ?_
  refine lv_iload_n hx hb dX1_kindAt_4 rfl (lv_at hl 1 rfl) ?_
  refine zq_iald hx hb hK hP 1 0 rfl rfl (j := j) (by omega) (by decide) dX1_kindAt_5 ?_
  exact W.iret (v := ki j) hx hb hr (zq_qi rfl hP hK hD hS) hS.2.2 dX1_kindAt_6

set_option maxHeartbeats 4000000 in
set_option maxRecDepth 100000 in
theorem c_X1_placeAt (l : Launch) (dC : Nat → ClassId) (dI : Nat → Nat → Nat) (a : Nat → Nat) (cI cZ cD : ClassId) (ki pl tu le : Nat → Int32) (ch ca : Nat → UInt64) (N : Nat) (hN : N ≤ 40) (j : Nat) (hj : j < 40) (sz : Nat) : zq_Mi l yX1_placeAt wsX1_placeAt ({ frames := 0, cells := 0, slots := 0, locals := 0 } : Room) (dC, dI) (zq_T cI cZ cD) [.ref (a 1), .int (nI j)] (wLa a cI cZ cD ki pl tu le ch ca (nI N)) (pl j) (wLa a cI cZ cD ki pl tu le ch ca (nI N)) sz := by
  refine Met.ofW (cc := cX1_placeAt) (maxL := 2) (ret := (some .int)) (by decide) rfl ?_
  intro p e s m args below meth c s₁ B hml hv
  obtain ⟨rfl, hsz, hP, hK, hD0⟩ := hv
  have hx := B.exec
  have hb := B.bytes
  have hr := B.returns
  have hts := atoms_spec (ws := wsX1_placeAt) B.pre
  have hown : s.vm.findClass RX1 = some m.cls := findClass_of_methodNamed B.named
  have hlocks := B.notSynchronized
  subst hsz
  have hD := hD0.self (sz := s.heap.size)
  generalize hAe : va_A (wLa a cI cZ cD ki pl tu le ch ca (nI N)) s.heap.size = A at hD ⊢
  have hA : ∀ q : Nat, s.heap.size ≤ q → A q := fun q h => by rw [← hAe]; exact Or.inr h
  have hS : va_S A s.heap s.heap [] := va_S.rf
  have hP : va_P (dC, dI) vwCl (wLa a cI cZ cD ki pl tu le ch ca (nI N)) s.heap := hP
  have hl := lv_entry ([.ref (a 1), .int (nI j)]) (n := 2) (Nat.le_of_ble_eq_true rfl)
  rw [lg_entry_eq]
  generalize (lg_sl ([.ref (a 1), .int (nI j)]) ++ List.replicate (2 - (lg_sl ([.ref (a 1), .int (nI j)])).length) Slot.unset).toArray = ls at hl ⊢
  have hl : lv_has ls 2 [(0, .ref (a 1)), (1, .int (nI j))] := hl
  have hf_15 := hts (.fieldLink RX1 15 "LampRoom$Lamps" "places" "[I") (by decide +kernel)
  have hin_1 : ∀ w ∈ wsX10, w ∈ wsX1_placeAt := by decide +kernel
  refine lv_aload_n hx hb dX1_placeAt_0 rfl (lv_at hl 0 rfl) ?_
  refine va_get (D := (dC, dI)) (ci := 1) (v := .ref (a 3)) (C := RX1) (T := TX1) (N := 7) hx hb hts hin_1 hown hK hP 0 rfl rfl 1 (by decide) hf_15 (fun _ h9 => h9) rfl dX1_placeAt_1 ?_
  refine lv_iload_n hx hb dX1_placeAt_4 rfl (lv_at hl 1 rfl) ?_
  refine zq_iald hx hb hK hP 2 0 rfl rfl (j := j) (by omega) (by decide) dX1_placeAt_5 ?_
  exact W.iret (v := pl j) hx hb hr (zq_qi rfl hP hK hD hS) hS.2.2 dX1_placeAt_6

set_option maxHeartbeats 4000000 in
set_option maxRecDepth 100000 in
theorem c_X1_turnsAt (l : Launch) (dC : Nat → ClassId) (dI : Nat → Nat → Nat) (a : Nat → Nat) (cI cZ cD : ClassId) (ki pl tu le : Nat → Int32) (ch ca : Nat → UInt64) (N : Nat) (hN : N ≤ 40) (j : Nat) (hj : j < 40) (sz : Nat) : zq_Mi l yX1_turnsAt wsX1_turnsAt ({ frames := 0, cells := 0, slots := 0, locals := 0 } : Room) (dC, dI) (zq_T cI cZ cD) [.ref (a 1), .int (nI j)] (wLa a cI cZ cD ki pl tu le ch ca (nI N)) (tu j) (wLa a cI cZ cD ki pl tu le ch ca (nI N)) sz := by
  refine Met.ofW (cc := cX1_turnsAt) (maxL := 2) (ret := (some .int)) (by decide) rfl ?_
  intro p e s m args below meth c s₁ B hml hv
  obtain ⟨rfl, hsz, hP, hK, hD0⟩ := hv
  have hx := B.exec
  have hb := B.bytes
  have hr := B.returns
  have hts := atoms_spec (ws := wsX1_turnsAt) B.pre
  have hown : s.vm.findClass RX1 = some m.cls := findClass_of_methodNamed B.named
  have hlocks := B.notSynchronized
  subst hsz
  have hD := hD0.self (sz := s.heap.size)
  generalize hAe : va_A (wLa a cI cZ cD ki pl tu le ch ca (nI N)) s.heap.size = A at hD ⊢
  have hA : ∀ q : Nat, s.heap.size ≤ q → A q := fun q h => by rw [← hAe]; exact Or.inr h
  have hS : va_S A s.heap s.heap [] := va_S.rf
  have hP : va_P (dC, dI) vwCl (wLa a cI cZ cD ki pl tu le ch ca (nI N)) s.heap := hP
  have hl := lv_entry ([.ref (a 1), .int (nI j)]) (n := 2) (Nat.le_of_ble_eq_true rfl)
  rw [lg_entry_eq]
  generalize (lg_sl ([.ref (a 1), .int (nI j)]) ++ List.replicate (2 - (lg_sl ([.ref (a 1), .int (nI j)])).length) Slot.unset).toArray = ls at hl ⊢
  have hl : lv_has ls 2 [(0, .ref (a 1)), (1, .int (nI j))] := hl
  have hf_18 := hts (.fieldLink RX1 18 "LampRoom$Lamps" "turns" "[I") (by decide +kernel)
  have hin_1 : ∀ w ∈ wsX10, w ∈ wsX1_turnsAt := by decide +kernel
  refine lv_aload_n hx hb dX1_turnsAt_0 rfl (lv_at hl 0 rfl) ?_
  refine va_get (D := (dC, dI)) (ci := 1) (v := .ref (a 4)) (C := RX1) (T := TX1) (N := 7) hx hb hts hin_1 hown hK hP 0 rfl rfl 2 (by decide) hf_18 (fun _ h9 => h9) rfl dX1_turnsAt_1 ?_
  refine lv_iload_n hx hb dX1_turnsAt_4 rfl (lv_at hl 1 rfl) ?_
  refine zq_iald hx hb hK hP 3 0 rfl rfl (j := j) (by omega) (by decide) dX1_turnsAt_5 ?_
  exact W.iret (v := tu j) hx hb hr (zq_qi rfl hP hK hD hS) hS.2.2 dX1_turnsAt_6

set_option maxHeartbeats 4000000 in
set_option maxRecDepth 100000 in
theorem c_X1_chargeAt (l : Launch) (dC : Nat → ClassId) (dI : Nat → Nat → Nat) (a : Nat → Nat) (cI cZ cD : ClassId) (ki pl tu le : Nat → Int32) (ch ca : Nat → UInt64) (N : Nat) (hN : N ≤ 40) (j : Nat) (hj : j < 40) (sz : Nat) : zq_Md l yX1_chargeAt wsX1_chargeAt ({ frames := 0, cells := 0, slots := 0, locals := 0 } : Room) (dC, dI) (zq_T cI cZ cD) [.ref (a 1), .int (nI j)] (wLa a cI cZ cD ki pl tu le ch ca (nI N)) (ch j) (wLa a cI cZ cD ki pl tu le ch ca (nI N)) sz := by
  refine Met.ofW (cc := cX1_chargeAt) (maxL := 2) (ret := (some .double)) (by decide) rfl ?_
  intro p e s m args below meth c s₁ B hml hv
  obtain ⟨rfl, hsz, hP, hK, hD0⟩ := hv
  have hx := B.exec
  have hb := B.bytes
  have hr := B.returns
  have hts := atoms_spec (ws := wsX1_chargeAt) B.pre
  have hown : s.vm.findClass RX1 = some m.cls := findClass_of_methodNamed B.named
  have hlocks := B.notSynchronized
  subst hsz
  have hD := hD0.self (sz := s.heap.size)
  generalize hAe : va_A (wLa a cI cZ cD ki pl tu le ch ca (nI N)) s.heap.size = A at hD ⊢
  have hA : ∀ q : Nat, s.heap.size ≤ q → A q := fun q h => by rw [← hAe]; exact Or.inr h
  have hS : va_S A s.heap s.heap [] := va_S.rf
  have hP : va_P (dC, dI) vwCl (wLa a cI cZ cD ki pl tu le ch ca (nI N)) s.heap := hP
  have hl := lv_entry ([.ref (a 1), .int (nI j)]) (n := 2) (Nat.le_of_ble_eq_true rfl)
  rw [lg_entry_eq]
  generalize (lg_sl ([.ref (a 1), .int (nI j)]) ++ List.replicate (2 - (lg_sl ([.ref (a 1), .int (nI j)])).length) Slot.unset).toArray = ls at hl ⊢
  have hl : lv_has ls 2 [(0, .ref (a 1)), (1, .int (nI j))] := hl
  have hf_25 := hts (.fieldLink RX1 25 "LampRoom$Lamps" "charges" "[D") (by decide +kernel)
  have hin_1 : ∀ w ∈ wsX10, w ∈ wsX1_chargeAt := by decide +kernel
  refine lv_aload_n hx hb dX1_chargeAt_0 rfl (lv_at hl 0 rfl) ?_
  refine va_get (D := (dC, dI)) (ci := 1) (v := .ref (a 6)) (C := RX1) (T := TX1) (N := 7) hx hb hts hin_1 hown hK hP 0 rfl rfl 4 (by decide) hf_25 (fun _ h9 => h9) rfl dX1_chargeAt_1 ?_
  refine lv_iload_n hx hb dX1_chargeAt_4 rfl (lv_at hl 1 rfl) ?_
  refine zq_dald hx hb hK hP 5 2 rfl rfl (j := j) (by omega) (by decide) dX1_chargeAt_5 ?_
  exact W.dret (v := ch j) hx hb hr (zq_qd rfl hP hK hD hS) hS.2.2 dX1_chargeAt_6

set_option maxHeartbeats 4000000 in
set_option maxRecDepth 100000 in
theorem c_X1_capacityAt (l : Launch) (dC : Nat → ClassId) (dI : Nat → Nat → Nat) (a : Nat → Nat) (cI cZ cD : ClassId) (ki pl tu le : Nat → Int32) (ch ca : Nat → UInt64) (N : Nat) (hN : N ≤ 40) (j : Nat) (hj : j < 40) (sz : Nat) : zq_Md l yX1_capacityAt wsX1_capacityAt ({ frames := 0, cells := 0, slots := 0, locals := 0 } : Room) (dC, dI) (zq_T cI cZ cD) [.ref (a 1), .int (nI j)] (wLa a cI cZ cD ki pl tu le ch ca (nI N)) (ca j) (wLa a cI cZ cD ki pl tu le ch ca (nI N)) sz := by
  refine Met.ofW (cc := cX1_capacityAt) (maxL := 2) (ret := (some .double)) (by decide) rfl ?_
  intro p e s m args below meth c s₁ B hml hv
  obtain ⟨rfl, hsz, hP, hK, hD0⟩ := hv
  have hx := B.exec
  have hb := B.bytes
  have hr := B.returns
  have hts := atoms_spec (ws := wsX1_capacityAt) B.pre
  have hown : s.vm.findClass RX1 = some m.cls := findClass_of_methodNamed B.named
  have hlocks := B.notSynchronized
  subst hsz
  have hD := hD0.self (sz := s.heap.size)
  generalize hAe : va_A (wLa a cI cZ cD ki pl tu le ch ca (nI N)) s.heap.size = A at hD ⊢
  have hA : ∀ q : Nat, s.heap.size ≤ q → A q := fun q h => by rw [← hAe]; exact Or.inr h
  have hS : va_S A s.heap s.heap [] := va_S.rf
  have hP : va_P (dC, dI) vwCl (wLa a cI cZ cD ki pl tu le ch ca (nI N)) s.heap := hP
  have hl := lv_entry ([.ref (a 1), .int (nI j)]) (n := 2) (Nat.le_of_ble_eq_true rfl)
  rw [lg_entry_eq]
  generalize (lg_sl ([.ref (a 1), .int (nI j)]) ++ List.replicate (2 - (lg_sl ([.ref (a 1), .int (nI j)])).length) Slot.unset).toArray = ls at hl ⊢
  have hl : lv_has ls 2 [(0, .ref (a 1)), (1, .int (nI j))] := hl
  have hf_29 := hts (.fieldLink RX1 29 "LampRoom$Lamps" "capacities" "[D") (by decide +kernel)
  have hin_1 : ∀ w ∈ wsX10, w ∈ wsX1_capacityAt := by decide +kernel
  refine lv_aload_n hx hb dX1_capacityAt_0 rfl (lv_at hl 0 rfl) ?_
  refine va_get (D := (dC, dI)) (ci := 1) (v := .ref (a 7)) (C := RX1) (T := TX1) (N := 7) hx hb hts hin_1 hown hK hP 0 rfl rfl 5 (by decide) hf_29 (fun _ h9 => h9) rfl dX1_capacityAt_1 ?_
  refine lv_iload_n hx hb dX1_capacityAt_4 rfl (lv_at hl 1 rfl) ?_
  refine zq_dald hx hb hK hP 6 2 rfl rfl (j := j) (by omega) (by decide) dX1_capacityAt_5 ?_
  exact W.dret (v := ca j) hx hb hr (zq_qd rfl hP hK hD hS) hS.2.2 dX1_capacityAt_6

set_option maxHeartbeats 4000000 in
set_option maxRecDepth 100000 in
theorem c_X1_newCapacity (l : Launch) (k : Int32) : zq_Sd l yX1_newCapacity wsX1_newCapacity ({ frames := 0, cells := 0, slots := 0, locals := 0 } : Room) [.int k] (la_new k) := by
  refine Met.ofW (cc := cX1_newCapacity) (maxL := 1) (ret := (some .double)) (by decide) rfl ?_
  intro p e s m args below meth c s₁ B hml hv
  obtain ⟨rfl, -⟩ := hv
  have hx := B.exec
  have hb := B.bytes
  have hr := B.returns
  have hts := atoms_spec (ws := wsX1_newCapacity) B.pre
  have hown : s.vm.findClass RX1 = some m.cls := findClass_of_methodNamed B.named
  have hlocks := B.notSynchronized
  have hS : va_S (fun _ => False) s.heap s.heap [] := va_S.rf
  have hl := lv_entry ([.int k]) (n := 1) (Nat.le_of_ble_eq_true rfl)
  rw [lg_entry_eq]
  generalize (lg_sl ([.int k]) ++ List.replicate (1 - (lg_sl ([.int k])).length) Slot.unset).toArray = ls at hl ⊢
  have hl : lv_has ls 1 [(0, .int k)] := hl
  have hc_64 := hts (.constantDouble RX1 64 (4626322717216342016)) (by decide +kernel)
  have hc_62 := hts (.constantDouble RX1 62 (4625196817309499392)) (by decide +kernel)
  have hc_60 := hts (.constantDouble RX1 60 (4622945017495814144)) (by decide +kernel)
  refine lv_iload_n hx hb dX1_newCapacity_0 rfl (lv_at hl 0 rfl) ?_
  refine lv_if_ne (tgt := 10) hx hb dX1_newCapacity_1 (by decide) (fun c_0 => ?_) (fun c_0 => ?_)
  · refine lv_iload_n hx hb dX1_newCapacity_10 rfl (lv_at hl 0 rfl) ?_
    refine lv_iconst (v := 1) hx hb dX1_newCapacity_11 (by decide) ?_
    refine lv_icmp_ne (tgt := 21) hx hb dX1_newCapacity_12 (by decide) (fun c_1 => ?_) (fun c_1 => ?_)
    · refine lv_ldc2d hx hb hown hc_64 dX1_newCapacity_21 ?_
      exact W.dret (v := 4626322717216342016) hx hb hr (fun t ht hW => ⟨⟨_, (), rfl, (by first | with_reducible rfl | simp [la_new, c_0, c_1]), trivial⟩, hS.F ht⟩) (fun q hq => (hS.2.2 q hq).elim) dX1_newCapacity_24
    · refine lv_ldc2d hx hb hown hc_62 dX1_newCapacity_15 ?_
      refine lv_goto (tgt := 24) hx hb dX1_newCapacity_18 (by decide) ?_
      exact W.dret (v := 4625196817309499392) hx hb hr (fun t ht hW => ⟨⟨_, (), rfl, (by first | with_reducible rfl | simp [la_new, c_0, c_1]), trivial⟩, hS.F ht⟩) (fun q hq => (hS.2.2 q hq).elim) dX1_newCapacity_24
  · refine lv_ldc2d hx hb hown hc_60 dX1_newCapacity_4 ?_
    refine lv_goto (tgt := 24) hx hb dX1_newCapacity_7 (by decide) ?_
    exact W.dret (v := 4622945017495814144) hx hb hr (fun t ht hW => ⟨⟨_, (), rfl, (by first | with_reducible rfl | simp [la_new, c_0]), trivial⟩, hS.F ht⟩) (fun q hq => (hS.2.2 q hq).elim) dX1_newCapacity_24

set_option maxHeartbeats 4000000 in
set_option maxRecDepth 100000 in
theorem c_X1_isIssuable (l : Launch) (dC : Nat → ClassId) (dI : Nat → Nat → Nat) (a : Nat → Nat) (cI cZ cD : ClassId) (ki pl tu le : Nat → Int32) (ch ca : Nat → UInt64) (N : Nat) (hN : N ≤ 40) (j : Nat) (hj : j < 40) (k : Int32) (sz : Nat) : zq_Mi l yX1_isIssuable wsX1_isIssuable ({ frames := 0, cells := 0, slots := 0, locals := 0 } : Room) (dC, dI) (zq_T cI cZ cD) [.ref (a 1), .int (nI j), .int k] (wLa a cI cZ cD ki pl tu le ch ca (nI N)) (zb (la_is ki pl ch k j)) (wLa a cI cZ cD ki pl tu le ch ca (nI N)) sz := by
  refine Met.ofW (cc := cX1_isIssuable) (maxL := 3) (ret := (some .boolean)) (by decide) rfl ?_
  intro p e s m args below meth c s₁ B hml hv
  obtain ⟨rfl, hsz, hP, hK, hD0⟩ := hv
  have hx := B.exec
  have hb := B.bytes
  have hr := B.returns
  have hts := atoms_spec (ws := wsX1_isIssuable) B.pre
  have hown : s.vm.findClass RX1 = some m.cls := findClass_of_methodNamed B.named
  have hlocks := B.notSynchronized
  subst hsz
  have hD := hD0.self (sz := s.heap.size)
  generalize hAe : va_A (wLa a cI cZ cD ki pl tu le ch ca (nI N)) s.heap.size = A at hD ⊢
  have hA : ∀ q : Nat, s.heap.size ≤ q → A q := fun q h => by rw [← hAe]; exact Or.inr h
  have hS : va_S A s.heap s.heap [] := va_S.rf
  have hP : va_P (dC, dI) vwCl (wLa a cI cZ cD ki pl tu le ch ca (nI N)) s.heap := hP
  have hl := lv_entry ([.ref (a 1), .int (nI j), .int k]) (n := 3) (Nat.le_of_ble_eq_true rfl)
  rw [lg_entry_eq]
  generalize (lg_sl ([.ref (a 1), .int (nI j), .int k]) ++ List.replicate (3 - (lg_sl ([.ref (a 1), .int (nI j), .int k])).length) Slot.unset).toArray = ls at hl ⊢
  have hl : lv_has ls 3 [(0, .ref (a 1)), (1, .int (nI j)), (2, .int k)] := hl
  have hf_9 := hts (.fieldLink RX1 9 "LampRoom$Lamps" "kinds" "[I") (by decide +kernel)
  have hin_1 : ∀ w ∈ wsX10, w ∈ wsX1_isIssuable := by decide +kernel
  have hf_15 := hts (.fieldLink RX1 15 "LampRoom$Lamps" "places" "[I") (by decide +kernel)
  have hf_25 := hts (.fieldLink RX1 25 "LampRoom$Lamps" "charges" "[D") (by decide +kernel)
  have hc_52 := hts (.constantDouble RX1 52 (4621256167635550208)) (by decide +kernel)
  refine lv_aload_n hx hb dX1_isIssuable_0 rfl (lv_at hl 0 rfl) ?_
  refine va_get (D := (dC, dI)) (ci := 1) (v := .ref (a 2)) (C := RX1) (T := TX1) (N := 7) hx hb hts hin_1 hown hK hP 0 rfl rfl 0 (by decide) hf_9 (fun _ h9 => h9) rfl dX1_isIssuable_1 ?_
  refine lv_iload_n hx hb dX1_isIssuable_4 rfl (lv_at hl 1 rfl) ?_
  refine zq_iald hx hb hK hP 1 0 rfl rfl (j := j) (by omega) (by decide) dX1_isIssuable_5 ?_
  refine lv_iload_n hx hb dX1_isIssuable_6 rfl (lv_at hl 2 rfl) ?_
  refine lv_icmp_ne (tgt := 36) hx hb dX1_isIssuable_7 (by decide) (fun c_0 => ?_) (fun c_0 => ?_)
  · refine lv_iconst (v := 0) hx hb dX1_isIssuable_36 (by decide) ?_
    exact W.zret (v := 0) hx hb hr (by rfl) (zq_qi (by first | with_reducible rfl | simp [zb, la_is, la_rd, la_ge9, c_0]) hP hK hD hS) hS.2.2 dX1_isIssuable_37
  · refine lv_aload_n hx hb dX1_isIssuable_10 rfl (lv_at hl 0 rfl) ?_
    refine va_get (D := (dC, dI)) (ci := 1) (v := .ref (a 3)) (C := RX1) (T := TX1) (N := 7) hx hb hts hin_1 hown hK hP 0 rfl rfl 1 (by decide) hf_15 (fun _ h9 => h9) rfl dX1_isIssuable_11 ?_
    refine lv_iload_n hx hb dX1_isIssuable_14 rfl (lv_at hl 1 rfl) ?_
    refine zq_iald hx hb hK hP 2 0 rfl rfl (j := j) (by omega) (by decide) dX1_isIssuable_15 ?_
    refine lv_if_ne (tgt := 36) hx hb dX1_isIssuable_16 (by decide) (fun c_1 => ?_) (fun c_1 => ?_)
    · refine lv_iconst (v := 0) hx hb dX1_isIssuable_36 (by decide) ?_
      exact W.zret (v := 0) hx hb hr (by rfl) (zq_qi (by first | with_reducible rfl | simp [zb, la_is, la_rd, la_ge9, c_0, c_1]) hP hK hD hS) hS.2.2 dX1_isIssuable_37
    · refine lv_aload_n hx hb dX1_isIssuable_19 rfl (lv_at hl 0 rfl) ?_
      refine va_get (D := (dC, dI)) (ci := 1) (v := .ref (a 6)) (C := RX1) (T := TX1) (N := 7) hx hb hts hin_1 hown hK hP 0 rfl rfl 4 (by decide) hf_25 (fun _ h9 => h9) rfl dX1_isIssuable_20 ?_
      refine lv_iload_n hx hb dX1_isIssuable_23 rfl (lv_at hl 1 rfl) ?_
      refine zq_dald hx hb hK hP 5 2 rfl rfl (j := j) (by omega) (by decide) dX1_isIssuable_24 ?_
      refine lv_ldc2d hx hb hown hc_52 dX1_isIssuable_25 ?_
      refine lv_dcmp hx hb dX1_isIssuable_28 ?_
      refine lv_if_lt (tgt := 36) hx hb dX1_isIssuable_29 (by decide) (fun c_2 => ?_) (fun c_2 => ?_)
      · refine lv_iconst (v := 0) hx hb dX1_isIssuable_36 (by decide) ?_
        exact W.zret (v := 0) hx hb hr (by rfl) (zq_qi (by first | with_reducible rfl | simp [zb, la_is, la_rd, la_ge9, c_0, c_1, c_2]) hP hK hD hS) hS.2.2 dX1_isIssuable_37
      · refine lv_iconst (v := 1) hx hb dX1_isIssuable_32 (by decide) ?_
        refine lv_goto (tgt := 37) hx hb dX1_isIssuable_33 (by decide) ?_
        exact W.zret (v := 1) hx hb hr (by rfl) (zq_qi (by first | with_reducible rfl | simp [zb, la_is, la_rd, la_ge9, c_0, c_1, c_2]) hP hK hD hS) hS.2.2 dX1_isIssuable_37

set_option maxHeartbeats 4000000 in
set_option maxRecDepth 100000 in
theorem c_X1_moveTo (l : Launch) (dC : Nat → ClassId) (dI : Nat → Nat → Nat) (a : Nat → Nat) (cI cZ cD : ClassId) (ki pl tu le : Nat → Int32) (ch ca : Nat → UInt64) (N : Nat) (hN : N ≤ 40) (j : Nat) (hj : j < 40) (x : Int32) (sz : Nat) : zq_Mv l yX1_moveTo wsX1_moveTo ({ frames := 0, cells := 0, slots := 0, locals := 0 } : Room) (dC, dI) (zq_T cI cZ cD) [.ref (a 1), .int (nI j), .int x] (wLa a cI cZ cD ki pl tu le ch ca (nI N)) (wLa a cI cZ cD ki (upd pl j x) tu le ch ca (nI N)) sz := by
  refine Met.ofW (cc := cX1_moveTo) (maxL := 3) (ret := none) (by decide) rfl ?_
  intro p e s m args below meth c s₁ B hml hv
  obtain ⟨rfl, hsz, hP, hK, hD0⟩ := hv
  have hx := B.exec
  have hb := B.bytes
  have hr := B.returns
  have hts := atoms_spec (ws := wsX1_moveTo) B.pre
  have hown : s.vm.findClass RX1 = some m.cls := findClass_of_methodNamed B.named
  have hlocks := B.notSynchronized
  subst hsz
  have hD := hD0.self (sz := s.heap.size)
  generalize hAe : va_A (wLa a cI cZ cD ki pl tu le ch ca (nI N)) s.heap.size = A at hD ⊢
  have hA : ∀ q : Nat, s.heap.size ≤ q → A q := fun q h => by rw [← hAe]; exact Or.inr h
  have hS : va_S A s.heap s.heap [] := va_S.rf
  have hP : va_P (dC, dI) vwCl (wLa a cI cZ cD ki pl tu le ch ca (nI N)) s.heap := hP
  have hl := lv_entry ([.ref (a 1), .int (nI j), .int x]) (n := 3) (Nat.le_of_ble_eq_true rfl)
  rw [lg_entry_eq]
  generalize (lg_sl ([.ref (a 1), .int (nI j), .int x]) ++ List.replicate (3 - (lg_sl ([.ref (a 1), .int (nI j), .int x])).length) Slot.unset).toArray = ls at hl ⊢
  have hl : lv_has ls 3 [(0, .ref (a 1)), (1, .int (nI j)), (2, .int x)] := hl
  have hf_15 := hts (.fieldLink RX1 15 "LampRoom$Lamps" "places" "[I") (by decide +kernel)
  have hin_1 : ∀ w ∈ wsX10, w ∈ wsX1_moveTo := by decide +kernel
  refine lv_aload_n hx hb dX1_moveTo_0 rfl (lv_at hl 0 rfl) ?_
  refine va_get (D := (dC, dI)) (ci := 1) (v := .ref (a 3)) (C := RX1) (T := TX1) (N := 7) hx hb hts hin_1 hown hK hP 0 rfl rfl 1 (by decide) hf_15 (fun _ h9 => h9) rfl dX1_moveTo_1 ?_
  refine lv_iload_n hx hb dX1_moveTo_4 rfl (lv_at hl 1 rfl) ?_
  refine lv_iload_n hx hb dX1_moveTo_5 rfl (lv_at hl 2 rfl) ?_
  refine zq_iast hx hb hK hP hD hS 2 0 rfl rfl (j := j) (by omega) (by decide) (wLa a cI cZ cD ki (upd pl j x) tu le ch ca (nI N)) rfl dX1_moveTo_6 (fun H locs hP hD hS => ?_)
  exact W.vret hx hb hr (zq_qv hP hK hD hS) hS.2.2 dX1_moveTo_7

set_option maxHeartbeats 4000000 in
set_option maxRecDepth 100000 in
theorem c_X1_endLeak (l : Launch) (dC : Nat → ClassId) (dI : Nat → Nat → Nat) (a : Nat → Nat) (cI cZ cD : ClassId) (ki pl tu le : Nat → Int32) (ch ca : Nat → UInt64) (N : Nat) (hN : N ≤ 40) (j : Nat) (hj : j < 40) (sz : Nat) : zq_Mv l yX1_endLeak wsX1_endLeak ({ frames := 0, cells := 0, slots := 0, locals := 0 } : Room) (dC, dI) (zq_T cI cZ cD) [.ref (a 1), .int (nI j)] (wLa a cI cZ cD ki pl tu le ch ca (nI N)) (wLa a cI cZ cD ki pl tu (upd le j 0) ch ca (nI N)) sz := by
  refine Met.ofW (cc := cX1_endLeak) (maxL := 2) (ret := none) (by decide) rfl ?_
  intro p e s m args below meth c s₁ B hml hv
  obtain ⟨rfl, hsz, hP, hK, hD0⟩ := hv
  have hx := B.exec
  have hb := B.bytes
  have hr := B.returns
  have hts := atoms_spec (ws := wsX1_endLeak) B.pre
  have hown : s.vm.findClass RX1 = some m.cls := findClass_of_methodNamed B.named
  have hlocks := B.notSynchronized
  subst hsz
  have hD := hD0.self (sz := s.heap.size)
  generalize hAe : va_A (wLa a cI cZ cD ki pl tu le ch ca (nI N)) s.heap.size = A at hD ⊢
  have hA : ∀ q : Nat, s.heap.size ≤ q → A q := fun q h => by rw [← hAe]; exact Or.inr h
  have hS : va_S A s.heap s.heap [] := va_S.rf
  have hP : va_P (dC, dI) vwCl (wLa a cI cZ cD ki pl tu le ch ca (nI N)) s.heap := hP
  have hl := lv_entry ([.ref (a 1), .int (nI j)]) (n := 2) (Nat.le_of_ble_eq_true rfl)
  rw [lg_entry_eq]
  generalize (lg_sl ([.ref (a 1), .int (nI j)]) ++ List.replicate (2 - (lg_sl ([.ref (a 1), .int (nI j)])).length) Slot.unset).toArray = ls at hl ⊢
  have hl : lv_has ls 2 [(0, .ref (a 1)), (1, .int (nI j))] := hl
  have hf_21 := hts (.fieldLink RX1 21 "LampRoom$Lamps" "leaks" "[Z") (by decide +kernel)
  have hin_1 : ∀ w ∈ wsX10, w ∈ wsX1_endLeak := by decide +kernel
  refine lv_aload_n hx hb dX1_endLeak_0 rfl (lv_at hl 0 rfl) ?_
  refine va_get (D := (dC, dI)) (ci := 1) (v := .ref (a 5)) (C := RX1) (T := TX1) (N := 7) hx hb hts hin_1 hown hK hP 0 rfl rfl 3 (by decide) hf_21 (fun _ h9 => h9) rfl dX1_endLeak_1 ?_
  refine lv_iload_n hx hb dX1_endLeak_4 rfl (lv_at hl 1 rfl) ?_
  refine lv_iconst (v := 0) hx hb dX1_endLeak_5 (by decide) ?_
  refine zq_zast hx hb hK hP hD hS 4 1 rfl rfl (j := j) (by omega) (by decide) rfl (wLa a cI cZ cD ki pl tu (upd le j 0) ch ca (nI N)) rfl dX1_endLeak_6 (fun H locs hP hD hS => ?_)
  exact W.vret hx hb hr (zq_qv hP hK hD hS) hS.2.2 dX1_endLeak_7

set_option maxHeartbeats 4000000 in
set_option maxRecDepth 100000 in
theorem c_X1_countIssuable (l : Launch) (dC : Nat → ClassId) (dI : Nat → Nat → Nat) (a : Nat → Nat) (cI cZ cD : ClassId) (ki pl tu le : Nat → Int32) (ch ca : Nat → UInt64) (N : Nat) (hN : N ≤ 40) (k : Int32) (sz : Nat) : zq_Mi l yX1_countIssuable wsX1_countIssuable ({ frames := 1, cells := 0, slots := 0, locals := 22 } : Room) (dC, dI) (zq_T cI cZ cD) [.ref (a 1), .int k] (wLa a cI cZ cD ki pl tu le ch ca (nI N)) (nI (zf_cnt (la_is ki pl ch k) N)) (wLa a cI cZ cD ki pl tu le ch ca (nI N)) sz := by
  refine Met.ofW (cc := cX1_countIssuable) (maxL := 4) (ret := (some .int)) (by decide) rfl ?_
  intro p e s m args below meth c s₁ B hml hv
  obtain ⟨rfl, hsz, hP, hK, hD0⟩ := hv
  have hx := B.exec
  have hb := B.bytes
  have hr := B.returns
  have hts := atoms_spec (ws := wsX1_countIssuable) B.pre
  have hown : s.vm.findClass RX1 = some m.cls := findClass_of_methodNamed B.named
  have hlocks := B.notSynchronized
  subst hsz
  have hD := hD0.self (sz := s.heap.size)
  generalize hAe : va_A (wLa a cI cZ cD ki pl tu le ch ca (nI N)) s.heap.size = A at hD ⊢
  have hA : ∀ q : Nat, s.heap.size ≤ q → A q := fun q h => by rw [← hAe]; exact Or.inr h
  have hS : va_S A s.heap s.heap [] := va_S.rf
  have hP : va_P (dC, dI) vwCl (wLa a cI cZ cD ki pl tu le ch ca (nI N)) s.heap := hP
  have hl := lv_entry ([.ref (a 1), .int k]) (n := 4) (Nat.le_of_ble_eq_true rfl)
  rw [lg_entry_eq]
  generalize (lg_sl ([.ref (a 1), .int k]) ++ List.replicate (4 - (lg_sl ([.ref (a 1), .int k])).length) Slot.unset).toArray = ls at hl ⊢
  have hl : lv_has ls 4 [(0, .ref (a 1)), (1, .int k)] := hl
  have hf_32 := hts (.fieldLink RX1 32 "LampRoom$Lamps" "count" "I") (by decide +kernel)
  have hin_1 : ∀ w ∈ wsX10, w ∈ wsX1_countIssuable := by decide +kernel
  refine lv_iconst (v := 0) hx hb dX1_countIssuable_0 (by decide) ?_
  refine lv_istore_n (lv' := [(2, .int 0), (0, .ref (a 1)), (1, .int k)]) hx hb dX1_countIssuable_1 rfl hl (by decide) rfl (fun ls hl => ?_)
  refine lv_iconst (v := 0) hx hb dX1_countIssuable_2 (by decide) ?_
  refine lv_istore_n (lv' := [(3, .int 0), (2, .int 0), (0, .ref (a 1)), (1, .int k)]) hx hb dX1_countIssuable_3 rfl hl (by decide) rfl (fun ls hl => ?_)
  refine zq_loop 4 N (fun i H locs ls => va_P (dC, dI) vwCl (wLa a cI cZ cD ki pl tu le ch ca (nI N)) H ∧ va_D A (wLa a cI cZ cD ki pl tu le ch ca (nI N)) ∧ va_S A s.heap H locs ∧ lv_has ls 4 [(2, .int (nI (zf_cnt (la_is ki pl ch k) i))), (3, .int (nI i)), (0, .ref (a 1)), (1, .int k)]) ?_ 0 (by omega) _ _ _ ⟨hP, hD, hS, lv_sub hl [1, 0, 2, 3] rfl⟩
  intro i hi_i ih_i H locs ls hh
  obtain ⟨hP, hD, hS, hl⟩ := hh
  refine lv_iload_n hx hb dX1_countIssuable_4 rfl (lv_at hl 1 rfl) ?_
  refine lv_aload_n hx hb dX1_countIssuable_5 rfl (lv_at hl 2 rfl) ?_
  refine va_get (D := (dC, dI)) (ci := 1) (v := .int (nI N)) (C := RX1) (T := TX1) (N := 7) hx hb hts hin_1 hown hK hP 0 rfl rfl 6 (by decide) hf_32 (fun _ h9 => h9) rfl dX1_countIssuable_6 ?_
  refine lv_icmp_ge (tgt := 30) hx hb dX1_countIssuable_9 (by decide) (fun c_0 => ?_) (fun c_0 => ?_)
  · have d_0 := (nI_leI (a := N) (b := i) (by omega) (by omega)).mp c_0
    have ei_i : i = N := by omega
    refine lv_iload_n hx hb dX1_countIssuable_30 rfl (lv_at hl 0 rfl) ?_
    exact W.iret (v := nI (zf_cnt (la_is ki pl ch k) i)) hx hb hr (zq_qi (by first | with_reducible rfl | simp [d_0, ei_i]) hP hK hD hS) hS.2.2 dX1_countIssuable_31
  · have d_0 := Nat.not_le.mp (fun h => c_0 ((nI_leI (a := N) (b := i) (by omega) (by omega)).mpr h))
    refine lv_aload_n hx hb dX1_countIssuable_12 rfl (lv_at hl 2 rfl) ?_
    refine lv_iload_n hx hb dX1_countIssuable_13 rfl (lv_at hl 1 rfl) ?_
    refine lv_iload_n hx hb dX1_countIssuable_14 rfl (lv_at hl 3 rfl) ?_
    refine zq_cVi (As := [.int (nI i), .int k]) (rest := []) (wc := (wLa a cI cZ cD ki pl tu le ch ca (nI N))) (w1 := (wLa a cI cZ cD ki pl tu le ch ca (nI N))) (wr := ([] : va_W)) (ws' := (wLa a cI cZ cD ki pl tu le ch ca (nI N))) ⟨hx, hb, hml, hown, hts⟩ (c_X1_isIssuable l dC dI a cI cZ cD ki pl tu le ch ca N (by omega) i (by omega) k H.size) (cwV 2 hts gX1_countIssuable_X1_isIssuable rfl rfl rfl (by decide +kernel) ⟨Nat.le_of_ble_eq_true rfl, Nat.le_of_ble_eq_true rfl⟩) hK hP hD hS hA [0, 1, 2, 3, 4, 5, 6] [] [0, 1, 2, 3, 4, 5, 6] rfl rfl rfl rfl (by decide) rfl rfl (ci := 1) rfl 0 rfl rfl hl.1 rfl (Nat.le_of_ble_eq_true rfl) dX1_countIssuable_15 ⟨Nat.zero_le _, Nat.zero_le _⟩ (fun H locs hP hD hS => ?_)
    refine lv_if_eq (tgt := 24) hx hb dX1_countIssuable_18 (by decide) (fun c_1 => ?_) (fun c_1 => ?_)
    · have d_1 := zb_eq c_1
      refine lv_iinc (v := nI (i + 1)) (lv' := [(3, .int (nI (i + 1))), (2, .int (nI (zf_cnt (la_is ki pl ch k) i))), (0, .ref (a 1)), (1, .int k)]) hx hb dX1_countIssuable_24 hl (k := 1) rfl (nI_add _ 1) (by decide) rfl (fun ls hl => ?_)
      refine lv_goto (tgt := 4) hx hb dX1_countIssuable_27 (by decide) ?_
      have e_2 : (nI (zf_cnt (la_is ki pl ch k) (i + 1))) = (nI (zf_cnt (la_is ki pl ch k) i)) := by rw [zf_cnt_f d_1]
      exact ih_i _ _ _ (by omega) ⟨(by (try rw [e_2]); exact hP), (by (try rw [e_2]); exact hD), hS, (by (try rw [e_2]); exact lv_sub hl [1, 0, 2, 3] rfl)⟩
    · have d_1 := zb_ne c_1
      refine lv_iinc (v := nI ((zf_cnt (la_is ki pl ch k) i) + 1)) (lv' := [(2, .int (nI ((zf_cnt (la_is ki pl ch k) i) + 1))), (3, .int (nI i)), (0, .ref (a 1)), (1, .int k)]) hx hb dX1_countIssuable_21 hl (k := 0) rfl (nI_add _ 1) (by decide) rfl (fun ls hl => ?_)
      refine lv_iinc (v := nI (i + 1)) (lv' := [(3, .int (nI (i + 1))), (2, .int (nI ((zf_cnt (la_is ki pl ch k) i) + 1))), (0, .ref (a 1)), (1, .int k)]) hx hb dX1_countIssuable_24 hl (k := 1) rfl (nI_add _ 1) (by decide) rfl (fun ls hl => ?_)
      refine lv_goto (tgt := 4) hx hb dX1_countIssuable_27 (by decide) ?_
      have e_3 : (nI (zf_cnt (la_is ki pl ch k) (i + 1))) = (nI ((zf_cnt (la_is ki pl ch k) i) + 1)) := by rw [zf_cnt_t d_1]
      exact ih_i _ _ _ (by omega) ⟨(by (try rw [e_3]); exact hP), (by (try rw [e_3]); exact hD), hS, (by (try rw [e_3]); exact lv_sub hl [1, 0, 2, 3] rfl)⟩

set_option maxHeartbeats 4000000 in
set_option maxRecDepth 100000 in
theorem c_X1_fullestOf (l : Launch) (dC : Nat → ClassId) (dI : Nat → Nat → Nat) (a : Nat → Nat) (cI cZ cD : ClassId) (ki pl tu le : Nat → Int32) (ch ca : Nat → UInt64) (N : Nat) (hN : N ≤ 40) (k : Int32) (sz : Nat) : zq_Mi l yX1_fullestOf wsX1_fullestOf ({ frames := 1, cells := 0, slots := 0, locals := 22 } : Room) (dC, dI) (zq_T cI cZ cD) [.ref (a 1), .int k] (wLa a cI cZ cD ki pl tu le ch ca (nI N)) (la_full ki pl ch k N) (wLa a cI cZ cD ki pl tu le ch ca (nI N)) sz := by
  refine Met.ofW (cc := cX1_fullestOf) (maxL := 4) (ret := (some .int)) (by decide) rfl ?_
  intro p e s m args below meth c s₁ B hml hv
  obtain ⟨rfl, hsz, hP, hK, hD0⟩ := hv
  have hx := B.exec
  have hb := B.bytes
  have hr := B.returns
  have hts := atoms_spec (ws := wsX1_fullestOf) B.pre
  have hown : s.vm.findClass RX1 = some m.cls := findClass_of_methodNamed B.named
  have hlocks := B.notSynchronized
  subst hsz
  have hD := hD0.self (sz := s.heap.size)
  generalize hAe : va_A (wLa a cI cZ cD ki pl tu le ch ca (nI N)) s.heap.size = A at hD ⊢
  have hA : ∀ q : Nat, s.heap.size ≤ q → A q := fun q h => by rw [← hAe]; exact Or.inr h
  have hS : va_S A s.heap s.heap [] := va_S.rf
  have hP : va_P (dC, dI) vwCl (wLa a cI cZ cD ki pl tu le ch ca (nI N)) s.heap := hP
  have hl := lv_entry ([.ref (a 1), .int k]) (n := 4) (Nat.le_of_ble_eq_true rfl)
  rw [lg_entry_eq]
  generalize (lg_sl ([.ref (a 1), .int k]) ++ List.replicate (4 - (lg_sl ([.ref (a 1), .int k])).length) Slot.unset).toArray = ls at hl ⊢
  have hl : lv_has ls 4 [(0, .ref (a 1)), (1, .int k)] := hl
  have hf_32 := hts (.fieldLink RX1 32 "LampRoom$Lamps" "count" "I") (by decide +kernel)
  have hin_1 : ∀ w ∈ wsX10, w ∈ wsX1_fullestOf := by decide +kernel
  have hf_25 := hts (.fieldLink RX1 25 "LampRoom$Lamps" "charges" "[D") (by decide +kernel)
  refine lv_iconst (v := (-1)) hx hb dX1_fullestOf_0 (by decide) ?_
  refine lv_istore_n (lv' := [(2, .int (-1)), (0, .ref (a 1)), (1, .int k)]) hx hb dX1_fullestOf_1 rfl hl (by decide) rfl (fun ls hl => ?_)
  refine lv_iconst (v := 0) hx hb dX1_fullestOf_2 (by decide) ?_
  refine lv_istore_n (lv' := [(3, .int 0), (2, .int (-1)), (0, .ref (a 1)), (1, .int k)]) hx hb dX1_fullestOf_3 rfl hl (by decide) rfl (fun ls hl => ?_)
  refine zq_loop 4 N (fun i H locs ls => va_P (dC, dI) vwCl (wLa a cI cZ cD ki pl tu le ch ca (nI N)) H ∧ va_D A (wLa a cI cZ cD ki pl tu le ch ca (nI N)) ∧ va_S A s.heap H locs ∧ lv_has ls 4 [(2, .int (la_full ki pl ch k i)), (3, .int (nI i)), (0, .ref (a 1)), (1, .int k)]) ?_ 0 (by omega) _ _ _ ⟨hP, hD, hS, lv_sub hl [1, 0, 2, 3] rfl⟩
  intro i hi_i ih_i H locs ls hh
  obtain ⟨hP, hD, hS, hl⟩ := hh
  refine lv_iload_n hx hb dX1_fullestOf_4 rfl (lv_at hl 1 rfl) ?_
  refine lv_aload_n hx hb dX1_fullestOf_5 rfl (lv_at hl 2 rfl) ?_
  refine va_get (D := (dC, dI)) (ci := 1) (v := .int (nI N)) (C := RX1) (T := TX1) (N := 7) hx hb hts hin_1 hown hK hP 0 rfl rfl 6 (by decide) hf_32 (fun _ h9 => h9) rfl dX1_fullestOf_6 ?_
  refine lv_icmp_ge (tgt := 50) hx hb dX1_fullestOf_9 (by decide) (fun c_0 => ?_) (fun c_0 => ?_)
  · have d_0 := (nI_leI (a := N) (b := i) (by omega) (by omega)).mp c_0
    have ei_i : i = N := by omega
    refine lv_iload_n hx hb dX1_fullestOf_50 rfl (lv_at hl 0 rfl) ?_
    exact W.iret (v := la_full ki pl ch k i) hx hb hr (zq_qi (by first | with_reducible rfl | simp [d_0, ei_i]) hP hK hD hS) hS.2.2 dX1_fullestOf_51
  · have d_0 := Nat.not_le.mp (fun h => c_0 ((nI_leI (a := N) (b := i) (by omega) (by omega)).mpr h))
    refine lv_aload_n hx hb dX1_fullestOf_12 rfl (lv_at hl 2 rfl) ?_
    refine lv_iload_n hx hb dX1_fullestOf_13 rfl (lv_at hl 1 rfl) ?_
    refine lv_iload_n hx hb dX1_fullestOf_14 rfl (lv_at hl 3 rfl) ?_
    refine zq_cVi (As := [.int (nI i), .int k]) (rest := []) (wc := (wLa a cI cZ cD ki pl tu le ch ca (nI N))) (w1 := (wLa a cI cZ cD ki pl tu le ch ca (nI N))) (wr := ([] : va_W)) (ws' := (wLa a cI cZ cD ki pl tu le ch ca (nI N))) ⟨hx, hb, hml, hown, hts⟩ (c_X1_isIssuable l dC dI a cI cZ cD ki pl tu le ch ca N (by omega) i (by omega) k H.size) (cwV 2 hts gX1_fullestOf_X1_isIssuable rfl rfl rfl (by decide +kernel) ⟨Nat.le_of_ble_eq_true rfl, Nat.le_of_ble_eq_true rfl⟩) hK hP hD hS hA [0, 1, 2, 3, 4, 5, 6] [] [0, 1, 2, 3, 4, 5, 6] rfl rfl rfl rfl (by decide) rfl rfl (ci := 1) rfl 0 rfl rfl hl.1 rfl (Nat.le_of_ble_eq_true rfl) dX1_fullestOf_15 ⟨Nat.zero_le _, Nat.zero_le _⟩ (fun H locs hP hD hS => ?_)
    refine lv_if_eq (tgt := 44) hx hb dX1_fullestOf_18 (by decide) (fun c_1 => ?_) (fun c_1 => ?_)
    · have d_1 := zb_eq c_1
      refine lv_iinc (v := nI (i + 1)) (lv' := [(3, .int (nI (i + 1))), (2, .int (la_full ki pl ch k i)), (0, .ref (a 1)), (1, .int k)]) hx hb dX1_fullestOf_44 hl (k := 1) rfl (nI_add _ 1) (by decide) rfl (fun ls hl => ?_)
      refine lv_goto (tgt := 4) hx hb dX1_fullestOf_47 (by decide) ?_
      have e_2 : (la_full ki pl ch k (i + 1)) = (la_full ki pl ch k i) := by simp [la_full, la_gt, d_0, d_1]
      exact ih_i _ _ _ (by omega) ⟨(by (try rw [e_2]); exact hP), (by (try rw [e_2]); exact hD), hS, (by (try rw [e_2]); exact lv_sub hl [1, 0, 2, 3] rfl)⟩
    · have d_1 := zb_ne c_1
      refine lv_iload_n hx hb dX1_fullestOf_21 rfl (lv_at hl 0 rfl) ?_
      refine lv_iconst (v := (-1)) hx hb dX1_fullestOf_22 (by decide) ?_
      refine lv_icmp_eq (tgt := 42) hx hb dX1_fullestOf_23 (by decide) (fun c_3 => ?_) (fun c_3 => ?_)
      · refine lv_iload_n hx hb dX1_fullestOf_42 rfl (lv_at hl 1 rfl) ?_
        refine lv_istore_n (lv' := [(2, .int (nI i)), (3, .int (nI i)), (0, .ref (a 1)), (1, .int k)]) hx hb dX1_fullestOf_43 rfl hl (by decide) rfl (fun ls hl => ?_)
        refine lv_iinc (v := nI (i + 1)) (lv' := [(3, .int (nI (i + 1))), (2, .int (nI i)), (0, .ref (a 1)), (1, .int k)]) hx hb dX1_fullestOf_44 hl (k := 1) rfl (nI_add _ 1) (by decide) rfl (fun ls hl => ?_)
        refine lv_goto (tgt := 4) hx hb dX1_fullestOf_47 (by decide) ?_
        have e_4 : (la_full ki pl ch k (i + 1)) = (nI i) := by simp [la_full, la_gt, d_0, d_1, c_3]
        exact ih_i _ _ _ (by omega) ⟨(by (try rw [e_4]); exact hP), (by (try rw [e_4]); exact hD), hS, (by (try rw [e_4]); exact lv_sub hl [1, 0, 2, 3] rfl)⟩
      · refine lv_aload_n hx hb dX1_fullestOf_26 rfl (lv_at hl 2 rfl) ?_
        refine va_get (D := (dC, dI)) (ci := 1) (v := .ref (a 6)) (C := RX1) (T := TX1) (N := 7) hx hb hts hin_1 hown hK hP 0 rfl rfl 4 (by decide) hf_25 (fun _ h9 => h9) rfl dX1_fullestOf_27 ?_
        refine lv_iload_n hx hb dX1_fullestOf_30 rfl (lv_at hl 1 rfl) ?_
        refine zq_dald hx hb hK hP 5 2 rfl rfl (j := i) (by omega) (by decide) dX1_fullestOf_31 ?_
        refine lv_aload_n hx hb dX1_fullestOf_32 rfl (lv_at hl 2 rfl) ?_
        refine va_get (D := (dC, dI)) (ci := 1) (v := .ref (a 6)) (C := RX1) (T := TX1) (N := 7) hx hb hts hin_1 hown hK hP 0 rfl rfl 4 (by decide) hf_25 (fun _ h9 => h9) rfl dX1_fullestOf_33 ?_
        refine lv_iload_n hx hb dX1_fullestOf_36 rfl (lv_at hl 0 rfl) ?_
        obtain ⟨b9, hb9, eb9⟩ := (la_full_or ki pl ch k i).resolve_left c_3
        have cb9 : (la_full ki pl ch k i).toNatClampNeg = b9 := by rw [eb9]; exact nI_clamp (by omega)
        rw [eb9]
        refine zq_dald hx hb hK hP 5 2 rfl rfl (j := b9) (by omega) (by decide) dX1_fullestOf_37 ?_
        refine lv_dcmp hx hb dX1_fullestOf_38 ?_
        refine lv_if_le (tgt := 44) hx hb dX1_fullestOf_39 (by decide) (fun c_5 => ?_) (fun c_5 => ?_)
        · refine lv_iinc (v := nI (i + 1)) (lv' := [(3, .int (nI (i + 1))), (2, .int (la_full ki pl ch k i)), (0, .ref (a 1)), (1, .int k)]) hx hb dX1_fullestOf_44 hl (k := 1) rfl (nI_add _ 1) (by decide) rfl (fun ls hl => ?_)
          refine lv_goto (tgt := 4) hx hb dX1_fullestOf_47 (by decide) ?_
          have e_6 : (la_full ki pl ch k (i + 1)) = (la_full ki pl ch k i) := by simp [la_full, la_gt, d_0, d_1, c_3, cb9, c_5]
          exact ih_i _ _ _ (by omega) ⟨(by (try rw [e_6]); exact hP), (by (try rw [e_6]); exact hD), hS, (by (try rw [e_6]); exact lv_sub hl [1, 0, 2, 3] rfl)⟩
        · refine lv_iload_n hx hb dX1_fullestOf_42 rfl (lv_at hl 1 rfl) ?_
          refine lv_istore_n (lv' := [(2, .int (nI i)), (3, .int (nI i)), (0, .ref (a 1)), (1, .int k)]) hx hb dX1_fullestOf_43 rfl hl (by decide) rfl (fun ls hl => ?_)
          refine lv_iinc (v := nI (i + 1)) (lv' := [(3, .int (nI (i + 1))), (2, .int (nI i)), (0, .ref (a 1)), (1, .int k)]) hx hb dX1_fullestOf_44 hl (k := 1) rfl (nI_add _ 1) (by decide) rfl (fun ls hl => ?_)
          refine lv_goto (tgt := 4) hx hb dX1_fullestOf_47 (by decide) ?_
          have e_7 : (la_full ki pl ch k (i + 1)) = (nI i) := by simp [la_full, la_gt, d_0, d_1, c_3, cb9, c_5]
          exact ih_i _ _ _ (by omega) ⟨(by (try rw [e_7]); exact hP), (by (try rw [e_7]); exact hD), hS, (by (try rw [e_7]); exact lv_sub hl [1, 0, 2, 3] rfl)⟩

set_option maxHeartbeats 4000000 in
set_option maxRecDepth 100000 in
theorem c_X1_bestFor (l : Launch) (dC : Nat → ClassId) (dI : Nat → Nat → Nat) (a : Nat → Nat) (cI cZ cD : ClassId) (ki pl tu le : Nat → Int32) (ch ca : Nat → UInt64) (N : Nat) (hN : N ≤ 40) (k : Nat) (hk : k ≤ 3) (sz : Nat) : zq_Mi l yX1_bestFor wsX1_bestFor ({ frames := 2, cells := 0, slots := 0, locals := 45 } : Room) (dC, dI) (zq_T cI cZ cD) [.ref (a 1), .int (nI k)] (wLa a cI cZ cD ki pl tu le ch ca (nI N)) (la_best ki pl ch N (3 - k) k) (wLa a cI cZ cD ki pl tu le ch ca (nI N)) sz := by
  refine Met.ofW (cc := cX1_bestFor) (maxL := 4) (ret := (some .int)) (by decide) rfl ?_
  intro p e s m args below meth c s₁ B hml hv
  obtain ⟨rfl, hsz, hP, hK, hD0⟩ := hv
  have hx := B.exec
  have hb := B.bytes
  have hr := B.returns
  have hts := atoms_spec (ws := wsX1_bestFor) B.pre
  have hown : s.vm.findClass RX1 = some m.cls := findClass_of_methodNamed B.named
  have hlocks := B.notSynchronized
  subst hsz
  have hD := hD0.self (sz := s.heap.size)
  generalize hAe : va_A (wLa a cI cZ cD ki pl tu le ch ca (nI N)) s.heap.size = A at hD ⊢
  have hA : ∀ q : Nat, s.heap.size ≤ q → A q := fun q h => by rw [← hAe]; exact Or.inr h
  have hS : va_S A s.heap s.heap [] := va_S.rf
  have hP : va_P (dC, dI) vwCl (wLa a cI cZ cD ki pl tu le ch ca (nI N)) s.heap := hP
  have hl := lv_entry ([.ref (a 1), .int (nI k)]) (n := 4) (Nat.le_of_ble_eq_true rfl)
  rw [lg_entry_eq]
  generalize (lg_sl ([.ref (a 1), .int (nI k)]) ++ List.replicate (4 - (lg_sl ([.ref (a 1), .int (nI k)])).length) Slot.unset).toArray = ls at hl ⊢
  have hl : lv_has ls 4 [(0, .ref (a 1)), (1, .int (nI k))] := hl
  refine lv_iload_n hx hb dX1_bestFor_0 rfl (lv_at hl 1 rfl) ?_
  refine lv_istore_n (lv' := [(2, .int (nI k)), (0, .ref (a 1)), (1, .int (nI k))]) hx hb dX1_bestFor_1 rfl hl (by decide) rfl (fun ls hl => ?_)
  refine zq_loop 2 3 (fun q H locs ls => va_P (dC, dI) vwCl (wLa a cI cZ cD ki pl tu le ch ca (nI N)) H ∧ va_D A (wLa a cI cZ cD ki pl tu le ch ca (nI N)) ∧ va_S A s.heap H locs ∧ lv_has ls 4 [(2, .int (nI q)), (0, .ref (a 1)), (1, .int (nI k))] ∧ la_best ki pl ch N (3 - q) q = la_best ki pl ch N (3 - k) k) ?_ k (by omega) _ _ _ ⟨hP, hD, hS, lv_sub hl [0, 1, 2] rfl, rfl⟩
  intro q hi_q ih_q H locs ls hh
  obtain ⟨hP, hD, hS, hl, hx_q⟩ := hh
  refine lv_iload_n hx hb dX1_bestFor_2 rfl (lv_at hl 0 rfl) ?_
  refine lv_iconst (v := 3) hx hb dX1_bestFor_3 (by decide) ?_
  refine lv_icmp_ge (tgt := 26) hx hb dX1_bestFor_4 (by decide) (fun c_0 => ?_) (fun c_0 => ?_)
  · have d_0 := (nI_leI (a := 3) (b := q) (by omega) (by omega)).mp c_0
    have ei_q : q = 3 := by omega
    refine lv_iconst (v := (-1)) hx hb dX1_bestFor_26 (by decide) ?_
    exact W.iret (v := (-1)) hx hb hr (zq_qi (by rw [← hx_q, ei_q]; rfl) hP hK hD hS) hS.2.2 dX1_bestFor_27
  · have d_0 := Nat.not_le.mp (fun h => c_0 ((nI_leI (a := 3) (b := q) (by omega) (by omega)).mpr h))
    refine lv_aload_n hx hb dX1_bestFor_7 rfl (lv_at hl 1 rfl) ?_
    refine lv_iload_n hx hb dX1_bestFor_8 rfl (lv_at hl 0 rfl) ?_
    refine zq_cVi (As := [.int (nI q)]) (rest := []) (wc := (wLa a cI cZ cD ki pl tu le ch ca (nI N))) (w1 := (wLa a cI cZ cD ki pl tu le ch ca (nI N))) (wr := ([] : va_W)) (ws' := (wLa a cI cZ cD ki pl tu le ch ca (nI N))) ⟨hx, hb, hml, hown, hts⟩ (c_X1_fullestOf l dC dI a cI cZ cD ki pl tu le ch ca N (by omega) (nI q) H.size) (cwV 1 hts gX1_bestFor_X1_fullestOf rfl rfl rfl (by decide +kernel) ⟨Nat.le_of_ble_eq_true rfl, Nat.le_of_ble_eq_true rfl⟩) hK hP hD hS hA [0, 1, 2, 3, 4, 5, 6] [] [0, 1, 2, 3, 4, 5, 6] rfl rfl rfl rfl (by decide) rfl rfl (ci := 1) rfl 0 rfl rfl hl.1 rfl (Nat.le_of_ble_eq_true rfl) dX1_bestFor_9 ⟨Nat.zero_le _, Nat.zero_le _⟩ (fun H locs hP hD hS => ?_)
    refine lv_istore_n (lv' := [(3, .int (la_full ki pl ch (nI q) N)), (2, .int (nI q)), (0, .ref (a 1)), (1, .int (nI k))]) hx hb dX1_bestFor_12 rfl hl (by decide) rfl (fun ls hl => ?_)
    refine lv_iload_n hx hb dX1_bestFor_13 rfl (lv_at hl 0 rfl) ?_
    refine lv_iconst (v := (-1)) hx hb dX1_bestFor_14 (by decide) ?_
    refine lv_icmp_eq (tgt := 20) hx hb dX1_bestFor_15 (by decide) (fun c_1 => ?_) (fun c_1 => ?_)
    · refine lv_iinc (v := nI (q + 1)) (lv' := [(2, .int (nI (q + 1))), (3, .int (la_full ki pl ch (nI q) N)), (0, .ref (a 1)), (1, .int (nI k))]) hx hb dX1_bestFor_20 hl (k := 1) rfl (nI_add _ 1) (by decide) rfl (fun ls hl => ?_)
      refine lv_goto (tgt := 2) hx hb dX1_bestFor_23 (by decide) ?_
      exact ih_q _ _ _ (by omega) ⟨hP, hD, hS, lv_sub hl [0, 2, 3] rfl, (by rw [← hx_q, show 3 - q = (3 - (q + 1)) + 1 by omega, la_best, if_pos c_1])⟩
    · refine lv_iload_n hx hb dX1_bestFor_18 rfl (lv_at hl 0 rfl) ?_
      exact W.iret (v := la_full ki pl ch (nI q) N) hx hb hr (zq_qi (by rw [← hx_q, show 3 - q = (3 - (q + 1)) + 1 by omega, la_best, if_neg c_1]) hP hK hD hS) hS.2.2 dX1_bestFor_19

set_option maxHeartbeats 4000000 in
set_option maxRecDepth 100000 in
theorem c_X1_hangNew (l : Launch) (dC : Nat → ClassId) (dI : Nat → Nat → Nat) (a : Nat → Nat) (cI cZ cD : ClassId) (ki pl tu le : Nat → Int32) (ch ca : Nat → UInt64) (N : Nat) (hN : N ≤ 40) (k : Int32) (hN1 : N < 40) (sz : Nat) : zq_Mi l yX1_hangNew wsX1_hangNew ({ frames := 1, cells := 0, slots := 0, locals := 20 } : Room) (dC, dI) (zq_T cI cZ cD) [.ref (a 1), .int k] (wLa a cI cZ cD ki pl tu le ch ca (nI N)) (nI N) (wLa a cI cZ cD (upd ki N k) (upd pl N 0) tu le (vf_upd ch N (la_new k)) (vf_upd ca N (la_new k)) (nI (N + 1))) sz := by
  refine Met.ofW (cc := cX1_hangNew) (maxL := 3) (ret := (some .int)) (by decide) rfl ?_
  intro p e s m args below meth c s₁ B hml hv
  obtain ⟨rfl, hsz, hP, hK, hD0⟩ := hv
  have hx := B.exec
  have hb := B.bytes
  have hr := B.returns
  have hts := atoms_spec (ws := wsX1_hangNew) B.pre
  have hown : s.vm.findClass RX1 = some m.cls := findClass_of_methodNamed B.named
  have hlocks := B.notSynchronized
  subst hsz
  have hD := hD0.self (sz := s.heap.size)
  generalize hAe : va_A (wLa a cI cZ cD ki pl tu le ch ca (nI N)) s.heap.size = A at hD ⊢
  have hA : ∀ q : Nat, s.heap.size ≤ q → A q := fun q h => by rw [← hAe]; exact Or.inr h
  have hS : va_S A s.heap s.heap [] := va_S.rf
  have hP : va_P (dC, dI) vwCl (wLa a cI cZ cD ki pl tu le ch ca (nI N)) s.heap := hP
  have hl := lv_entry ([.ref (a 1), .int k]) (n := 3) (Nat.le_of_ble_eq_true rfl)
  rw [lg_entry_eq]
  generalize (lg_sl ([.ref (a 1), .int k]) ++ List.replicate (3 - (lg_sl ([.ref (a 1), .int k])).length) Slot.unset).toArray = ls at hl ⊢
  have hl : lv_has ls 3 [(0, .ref (a 1)), (1, .int k)] := hl
  have hf_32 := hts (.fieldLink RX1 32 "LampRoom$Lamps" "count" "I") (by decide +kernel)
  have hin_1 : ∀ w ∈ wsX10, w ∈ wsX1_hangNew := by decide +kernel
  have hf_9 := hts (.fieldLink RX1 9 "LampRoom$Lamps" "kinds" "[I") (by decide +kernel)
  have hf_15 := hts (.fieldLink RX1 15 "LampRoom$Lamps" "places" "[I") (by decide +kernel)
  have hf_29 := hts (.fieldLink RX1 29 "LampRoom$Lamps" "capacities" "[D") (by decide +kernel)
  have hf_25 := hts (.fieldLink RX1 25 "LampRoom$Lamps" "charges" "[D") (by decide +kernel)
  refine lv_aload_n hx hb dX1_hangNew_0 rfl (lv_at hl 0 rfl) ?_
  refine va_get (D := (dC, dI)) (ci := 1) (v := .int (nI N)) (C := RX1) (T := TX1) (N := 7) hx hb hts hin_1 hown hK hP 0 rfl rfl 6 (by decide) hf_32 (fun _ h9 => h9) rfl dX1_hangNew_1 ?_
  refine lv_istore_n (lv' := [(2, .int (nI N)), (0, .ref (a 1)), (1, .int k)]) hx hb dX1_hangNew_4 rfl hl (by decide) rfl (fun ls hl => ?_)
  refine lv_aload_n hx hb dX1_hangNew_5 rfl (lv_at hl 1 rfl) ?_
  refine va_get (D := (dC, dI)) (ci := 1) (v := .ref (a 2)) (C := RX1) (T := TX1) (N := 7) hx hb hts hin_1 hown hK hP 0 rfl rfl 0 (by decide) hf_9 (fun _ h9 => h9) rfl dX1_hangNew_6 ?_
  refine lv_iload_n hx hb dX1_hangNew_9 rfl (lv_at hl 0 rfl) ?_
  refine lv_iload_n hx hb dX1_hangNew_10 rfl (lv_at hl 2 rfl) ?_
  refine zq_iast hx hb hK hP hD hS 1 0 rfl rfl (j := N) (by omega) (by decide) (wLa a cI cZ cD (upd ki N k) pl tu le ch ca (nI N)) rfl dX1_hangNew_11 (fun H locs hP hD hS => ?_)
  refine lv_aload_n hx hb dX1_hangNew_12 rfl (lv_at hl 1 rfl) ?_
  refine va_get (D := (dC, dI)) (ci := 1) (v := .ref (a 3)) (C := RX1) (T := TX1) (N := 7) hx hb hts hin_1 hown hK hP 0 rfl rfl 1 (by decide) hf_15 (fun _ h9 => h9) rfl dX1_hangNew_13 ?_
  refine lv_iload_n hx hb dX1_hangNew_16 rfl (lv_at hl 0 rfl) ?_
  refine lv_iconst (v := 0) hx hb dX1_hangNew_17 (by decide) ?_
  refine zq_iast hx hb hK hP hD hS 2 0 rfl rfl (j := N) (by omega) (by decide) (wLa a cI cZ cD (upd ki N k) (upd pl N 0) tu le ch ca (nI N)) rfl dX1_hangNew_18 (fun H locs hP hD hS => ?_)
  refine lv_aload_n hx hb dX1_hangNew_19 rfl (lv_at hl 1 rfl) ?_
  refine va_get (D := (dC, dI)) (ci := 1) (v := .ref (a 7)) (C := RX1) (T := TX1) (N := 7) hx hb hts hin_1 hown hK hP 0 rfl rfl 5 (by decide) hf_29 (fun _ h9 => h9) rfl dX1_hangNew_20 ?_
  refine lv_iload_n hx hb dX1_hangNew_23 rfl (lv_at hl 0 rfl) ?_
  refine lv_iload_n hx hb dX1_hangNew_24 rfl (lv_at hl 2 rfl) ?_
  refine zq_cSd (As := [.int k]) (rest := [.int (nI N), .ref (a 7)]) ⟨hx, hb, hml, hown, hts⟩ (c_X1_newCapacity l k) (va_cwS 1 hts gX1_hangNew_X1_newCapacity rfl rfl rfl (by decide +kernel) ⟨Nat.le_of_ble_eq_true rfl, Nat.le_of_ble_eq_true rfl⟩) hP hS rfl hl.1 rfl (Nat.le_of_ble_eq_true rfl) dX1_hangNew_25 ⟨Nat.zero_le _, Nat.zero_le _⟩ (fun H locs hP hS => ?_)
  refine zq_dast hx hb hK hP hD hS 6 2 rfl rfl (j := N) (by omega) (by decide) (wLa a cI cZ cD (upd ki N k) (upd pl N 0) tu le ch (vf_upd ca N (la_new k)) (nI N)) rfl dX1_hangNew_28 (fun H locs hP hD hS => ?_)
  refine lv_aload_n hx hb dX1_hangNew_29 rfl (lv_at hl 1 rfl) ?_
  refine va_get (D := (dC, dI)) (ci := 1) (v := .ref (a 6)) (C := RX1) (T := TX1) (N := 7) hx hb hts hin_1 hown hK hP 0 rfl rfl 4 (by decide) hf_25 (fun _ h9 => h9) rfl dX1_hangNew_30 ?_
  refine lv_iload_n hx hb dX1_hangNew_33 rfl (lv_at hl 0 rfl) ?_
  refine lv_aload_n hx hb dX1_hangNew_34 rfl (lv_at hl 1 rfl) ?_
  refine va_get (D := (dC, dI)) (ci := 1) (v := .ref (a 7)) (C := RX1) (T := TX1) (N := 7) hx hb hts hin_1 hown hK hP 0 rfl rfl 5 (by decide) hf_29 (fun _ h9 => h9) rfl dX1_hangNew_35 ?_
  refine lv_iload_n hx hb dX1_hangNew_38 rfl (lv_at hl 0 rfl) ?_
  refine zq_dald hx hb hK hP 6 2 rfl rfl (j := N) (by omega) (by decide) dX1_hangNew_39 ?_
  rw [zq_vus]
  refine zq_dast hx hb hK hP hD hS 5 2 rfl rfl (j := N) (by omega) (by decide) (wLa a cI cZ cD (upd ki N k) (upd pl N 0) tu le (vf_upd ch N (la_new k)) (vf_upd ca N (la_new k)) (nI N)) rfl dX1_hangNew_40 (fun H locs hP hD hS => ?_)
  refine lv_aload_n hx hb dX1_hangNew_41 rfl (lv_at hl 1 rfl) ?_
  refine lv_dup hx hb dX1_hangNew_42 rfl ?_
  refine va_get (D := (dC, dI)) (ci := 1) (v := .int (nI N)) (C := RX1) (T := TX1) (N := 7) hx hb hts hin_1 hown hK hP 0 rfl rfl 6 (by decide) hf_32 (fun _ h9 => h9) rfl dX1_hangNew_43 ?_
  refine lv_iconst (v := 1) hx hb dX1_hangNew_46 (by decide) ?_
  refine t_iadd hx hb dX1_hangNew_47 (v := nI (N + 1)) (nI_1 _) ?_
  refine va_put (D := (dC, dI)) (ci := 1) (v := .int (nI (N + 1))) (ty := .int) (C := RX1) (T := TX1) (N := 7) hx hb hts hin_1 tyX1 tyX1_ok nmX1 hown hK hP hD hS 0 rfl rfl 6 (by decide) hf_32 (fun _ h9 => h9) rfl (by decide +kernel) rfl rfl (Nat.le_of_ble_eq_true rfl) dX1_hangNew_48 (fun H locs hP hD hS => ?_)
  have hP : va_P (dC, dI) vwCl (wLa a cI cZ cD (upd ki N k) (upd pl N 0) tu le (vf_upd ch N (la_new k)) (vf_upd ca N (la_new k)) (nI (N + 1))) H := hP
  have hD : va_D A (wLa a cI cZ cD (upd ki N k) (upd pl N 0) tu le (vf_upd ch N (la_new k)) (vf_upd ca N (la_new k)) (nI (N + 1))) := hD
  refine lv_iload_n hx hb dX1_hangNew_51 rfl (lv_at hl 0 rfl) ?_
  exact W.iret (v := nI N) hx hb hr (zq_qi rfl hP hK hD hS) hS.2.2 dX1_hangNew_52

set_option maxHeartbeats 4000000 in
set_option maxRecDepth 100000 in
theorem c_X1_takeBack (l : Launch) (dC : Nat → ClassId) (dI : Nat → Nat → Nat) (a : Nat → Nat) (cI cZ cD : ClassId) (ki pl tu le : Nat → Int32) (ch ca : Nat → UInt64) (N : Nat) (hN : N ≤ 40) (j : Nat) (hj : j < 40) (hc : zn_p (ca j)) (sz : Nat) : zq_Mv l yX1_takeBack wsX1_takeBack ({ frames := 0, cells := 0, slots := 0, locals := 0 } : Room) (dC, dI) (zq_T cI cZ cD) [.ref (a 1), .int (nI j)] (wLa a cI cZ cD ki pl tu le ch ca (nI N)) (wLa a cI cZ cD ki (upd pl j 0) (upd tu j (tu j + 1)) (if la_rem (tu j + 1) = 0 then upd le j 1 else le) (if la_gt (ch j) (FP.dmul (ca j) 4606912202822375178) = true then vf_upd ch j (FP.dmul (ca j) 4606912202822375178) else ch) (vf_upd ca j (FP.dmul (ca j) 4606912202822375178)) (nI N)) sz := by
  refine Met.ofW (cc := cX1_takeBack) (maxL := 2) (ret := none) (by decide) rfl ?_
  intro p e s m args below meth c s₁ B hml hv
  obtain ⟨rfl, hsz, hP, hK, hD0⟩ := hv
  have hx := B.exec
  have hb := B.bytes
  have hr := B.returns
  have hts := atoms_spec (ws := wsX1_takeBack) B.pre
  have hown : s.vm.findClass RX1 = some m.cls := findClass_of_methodNamed B.named
  have hlocks := B.notSynchronized
  subst hsz
  have hD := hD0.self (sz := s.heap.size)
  generalize hAe : va_A (wLa a cI cZ cD ki pl tu le ch ca (nI N)) s.heap.size = A at hD ⊢
  have hA : ∀ q : Nat, s.heap.size ≤ q → A q := fun q h => by rw [← hAe]; exact Or.inr h
  have hS : va_S A s.heap s.heap [] := va_S.rf
  have hP : va_P (dC, dI) vwCl (wLa a cI cZ cD ki pl tu le ch ca (nI N)) s.heap := hP
  have hl := lv_entry ([.ref (a 1), .int (nI j)]) (n := 2) (Nat.le_of_ble_eq_true rfl)
  rw [lg_entry_eq]
  generalize (lg_sl ([.ref (a 1), .int (nI j)]) ++ List.replicate (2 - (lg_sl ([.ref (a 1), .int (nI j)])).length) Slot.unset).toArray = ls at hl ⊢
  have hl : lv_has ls 2 [(0, .ref (a 1)), (1, .int (nI j))] := hl
  have hf_15 := hts (.fieldLink RX1 15 "LampRoom$Lamps" "places" "[I") (by decide +kernel)
  have hin_1 : ∀ w ∈ wsX10, w ∈ wsX1_takeBack := by decide +kernel
  have hf_18 := hts (.fieldLink RX1 18 "LampRoom$Lamps" "turns" "[I") (by decide +kernel)
  have hf_29 := hts (.fieldLink RX1 29 "LampRoom$Lamps" "capacities" "[D") (by decide +kernel)
  have hc_40 := hts (.constantDouble RX1 40 (4606912202822375178)) (by decide +kernel)
  have hf_25 := hts (.fieldLink RX1 25 "LampRoom$Lamps" "charges" "[D") (by decide +kernel)
  have hf_21 := hts (.fieldLink RX1 21 "LampRoom$Lamps" "leaks" "[Z") (by decide +kernel)
  refine lv_aload_n hx hb dX1_takeBack_0 rfl (lv_at hl 0 rfl) ?_
  refine va_get (D := (dC, dI)) (ci := 1) (v := .ref (a 3)) (C := RX1) (T := TX1) (N := 7) hx hb hts hin_1 hown hK hP 0 rfl rfl 1 (by decide) hf_15 (fun _ h9 => h9) rfl dX1_takeBack_1 ?_
  refine lv_iload_n hx hb dX1_takeBack_4 rfl (lv_at hl 1 rfl) ?_
  refine lv_iconst (v := 0) hx hb dX1_takeBack_5 (by decide) ?_
  refine zq_iast hx hb hK hP hD hS 2 0 rfl rfl (j := j) (by omega) (by decide) (wLa a cI cZ cD ki (upd pl j 0) tu le ch ca (nI N)) rfl dX1_takeBack_6 (fun H locs hP hD hS => ?_)
  refine lv_aload_n hx hb dX1_takeBack_7 rfl (lv_at hl 0 rfl) ?_
  refine va_get (D := (dC, dI)) (ci := 1) (v := .ref (a 4)) (C := RX1) (T := TX1) (N := 7) hx hb hts hin_1 hown hK hP 0 rfl rfl 2 (by decide) hf_18 (fun _ h9 => h9) rfl dX1_takeBack_8 ?_
  refine lv_iload_n hx hb dX1_takeBack_11 rfl (lv_at hl 1 rfl) ?_
  refine lv_dup2_11 hx hb dX1_takeBack_12 rfl rfl ?_
  refine zq_iald hx hb hK hP 3 0 rfl rfl (j := j) (by omega) (by decide) dX1_takeBack_13 ?_
  refine lv_iconst (v := 1) hx hb dX1_takeBack_14 (by decide) ?_
  refine t_iadd hx hb dX1_takeBack_15 (v := (tu j) + 1) (rfl) ?_
  refine zq_iast hx hb hK hP hD hS 3 0 rfl rfl (j := j) (by omega) (by decide) (wLa a cI cZ cD ki (upd pl j 0) (upd tu j ((tu j) + 1)) le ch ca (nI N)) rfl dX1_takeBack_16 (fun H locs hP hD hS => ?_)
  refine lv_aload_n hx hb dX1_takeBack_17 rfl (lv_at hl 0 rfl) ?_
  refine va_get (D := (dC, dI)) (ci := 1) (v := .ref (a 4)) (C := RX1) (T := TX1) (N := 7) hx hb hts hin_1 hown hK hP 0 rfl rfl 2 (by decide) hf_18 (fun _ h9 => h9) rfl dX1_takeBack_18 ?_
  refine lv_iload_n hx hb dX1_takeBack_21 rfl (lv_at hl 1 rfl) ?_
  refine zq_iald hx hb hK hP 3 0 rfl rfl (j := j) (by omega) (by decide) dX1_takeBack_22 ?_
  rw [pk_us]
  refine lv_bipush (v := 7) hx hb dX1_takeBack_23 (by decide) ?_
  refine t_irem hx hb dX1_takeBack_25 (by decide) (v := ((tu j) + 1) - ((tu j) + 1) / 7 * 7) (rfl) ?_
  refine lv_if_ne (tgt := 36) hx hb dX1_takeBack_26 (by decide) (fun c_0 => ?_) (fun c_0 => ?_)
  · refine lv_aload_n hx hb dX1_takeBack_36 rfl (lv_at hl 0 rfl) ?_
    refine va_get (D := (dC, dI)) (ci := 1) (v := .ref (a 7)) (C := RX1) (T := TX1) (N := 7) hx hb hts hin_1 hown hK hP 0 rfl rfl 5 (by decide) hf_29 (fun _ h9 => h9) rfl dX1_takeBack_37 ?_
    refine lv_iload_n hx hb dX1_takeBack_40 rfl (lv_at hl 1 rfl) ?_
    refine lv_aload_n hx hb dX1_takeBack_41 rfl (lv_at hl 0 rfl) ?_
    refine va_get (D := (dC, dI)) (ci := 1) (v := .ref (a 7)) (C := RX1) (T := TX1) (N := 7) hx hb hts hin_1 hown hK hP 0 rfl rfl 5 (by decide) hf_29 (fun _ h9 => h9) rfl dX1_takeBack_42 ?_
    refine lv_iload_n hx hb dX1_takeBack_45 rfl (lv_at hl 1 rfl) ?_
    refine zq_dald hx hb hK hP 6 2 rfl rfl (j := j) (by omega) (by decide) dX1_takeBack_46 ?_
    refine lv_ldc2d hx hb hown hc_40 dX1_takeBack_47 ?_
    refine lv_dmul hx hb dX1_takeBack_50 (zn_n64 (zn_mul97 hc)) ?_
    refine zq_dast hx hb hK hP hD hS 6 2 rfl rfl (j := j) (by omega) (by decide) (wLa a cI cZ cD ki (upd pl j 0) (upd tu j ((tu j) + 1)) le ch (vf_upd ca j (FP.dmul (ca j) 4606912202822375178)) (nI N)) rfl dX1_takeBack_51 (fun H locs hP hD hS => ?_)
    refine lv_aload_n hx hb dX1_takeBack_52 rfl (lv_at hl 0 rfl) ?_
    refine va_get (D := (dC, dI)) (ci := 1) (v := .ref (a 6)) (C := RX1) (T := TX1) (N := 7) hx hb hts hin_1 hown hK hP 0 rfl rfl 4 (by decide) hf_25 (fun _ h9 => h9) rfl dX1_takeBack_53 ?_
    refine lv_iload_n hx hb dX1_takeBack_56 rfl (lv_at hl 1 rfl) ?_
    refine zq_dald hx hb hK hP 5 2 rfl rfl (j := j) (by omega) (by decide) dX1_takeBack_57 ?_
    refine lv_aload_n hx hb dX1_takeBack_58 rfl (lv_at hl 0 rfl) ?_
    refine va_get (D := (dC, dI)) (ci := 1) (v := .ref (a 7)) (C := RX1) (T := TX1) (N := 7) hx hb hts hin_1 hown hK hP 0 rfl rfl 5 (by decide) hf_29 (fun _ h9 => h9) rfl dX1_takeBack_59 ?_
    refine lv_iload_n hx hb dX1_takeBack_62 rfl (lv_at hl 1 rfl) ?_
    refine zq_dald hx hb hK hP 6 2 rfl rfl (j := j) (by omega) (by decide) dX1_takeBack_63 ?_
    rw [zq_vus]
    refine lv_dcmp hx hb dX1_takeBack_64 ?_
    refine lv_if_le (tgt := 80) hx hb dX1_takeBack_65 (by decide) (fun c_1 => ?_) (fun c_1 => ?_)
    · have e_2 : (upd tu j (tu j + 1)) = (upd tu j ((tu j) + 1)) := by simp [la_rem, la_gt, zq_vus, c_0, c_1]
      have e_3 : (if la_rem (tu j + 1) = 0 then upd le j 1 else le) = le := by simp [la_rem, la_gt, zq_vus, c_0, c_1]
      have e_4 : (if la_gt (ch j) (FP.dmul (ca j) 4606912202822375178) = true then vf_upd ch j (FP.dmul (ca j) 4606912202822375178) else ch) = ch := by simp [la_rem, la_gt, zq_vus, c_0, c_1]
      exact W.vret hx hb hr (zq_qv (by rw [e_2, e_3, e_4]; exact hP) hK (by rw [e_2, e_3, e_4]; exact hD) hS) hS.2.2 dX1_takeBack_80
    · refine lv_aload_n hx hb dX1_takeBack_68 rfl (lv_at hl 0 rfl) ?_
      refine va_get (D := (dC, dI)) (ci := 1) (v := .ref (a 6)) (C := RX1) (T := TX1) (N := 7) hx hb hts hin_1 hown hK hP 0 rfl rfl 4 (by decide) hf_25 (fun _ h9 => h9) rfl dX1_takeBack_69 ?_
      refine lv_iload_n hx hb dX1_takeBack_72 rfl (lv_at hl 1 rfl) ?_
      refine lv_aload_n hx hb dX1_takeBack_73 rfl (lv_at hl 0 rfl) ?_
      refine va_get (D := (dC, dI)) (ci := 1) (v := .ref (a 7)) (C := RX1) (T := TX1) (N := 7) hx hb hts hin_1 hown hK hP 0 rfl rfl 5 (by decide) hf_29 (fun _ h9 => h9) rfl dX1_takeBack_74 ?_
      refine lv_iload_n hx hb dX1_takeBack_77 rfl (lv_at hl 1 rfl) ?_
      refine zq_dald hx hb hK hP 6 2 rfl rfl (j := j) (by omega) (by decide) dX1_takeBack_78 ?_
      rw [zq_vus]
      refine zq_dast hx hb hK hP hD hS 5 2 rfl rfl (j := j) (by omega) (by decide) (wLa a cI cZ cD ki (upd pl j 0) (upd tu j ((tu j) + 1)) le (vf_upd ch j (FP.dmul (ca j) 4606912202822375178)) (vf_upd ca j (FP.dmul (ca j) 4606912202822375178)) (nI N)) rfl dX1_takeBack_79 (fun H locs hP hD hS => ?_)
      have e_5 : (upd tu j (tu j + 1)) = (upd tu j ((tu j) + 1)) := by simp [la_rem, la_gt, zq_vus, c_0, c_1]
      have e_6 : (if la_rem (tu j + 1) = 0 then upd le j 1 else le) = le := by simp [la_rem, la_gt, zq_vus, c_0, c_1]
      have e_7 : (if la_gt (ch j) (FP.dmul (ca j) 4606912202822375178) = true then vf_upd ch j (FP.dmul (ca j) 4606912202822375178) else ch) = (vf_upd ch j (FP.dmul (ca j) 4606912202822375178)) := by simp [la_rem, la_gt, zq_vus, c_0, c_1]
      exact W.vret hx hb hr (zq_qv (by rw [e_5, e_6, e_7]; exact hP) hK (by rw [e_5, e_6, e_7]; exact hD) hS) hS.2.2 dX1_takeBack_80
  · refine lv_aload_n hx hb dX1_takeBack_29 rfl (lv_at hl 0 rfl) ?_
    refine va_get (D := (dC, dI)) (ci := 1) (v := .ref (a 5)) (C := RX1) (T := TX1) (N := 7) hx hb hts hin_1 hown hK hP 0 rfl rfl 3 (by decide) hf_21 (fun _ h9 => h9) rfl dX1_takeBack_30 ?_
    refine lv_iload_n hx hb dX1_takeBack_33 rfl (lv_at hl 1 rfl) ?_
    refine lv_iconst (v := 1) hx hb dX1_takeBack_34 (by decide) ?_
    refine zq_zast hx hb hK hP hD hS 4 1 rfl rfl (j := j) (by omega) (by decide) rfl (wLa a cI cZ cD ki (upd pl j 0) (upd tu j ((tu j) + 1)) (upd le j 1) ch ca (nI N)) rfl dX1_takeBack_35 (fun H locs hP hD hS => ?_)
    refine lv_aload_n hx hb dX1_takeBack_36 rfl (lv_at hl 0 rfl) ?_
    refine va_get (D := (dC, dI)) (ci := 1) (v := .ref (a 7)) (C := RX1) (T := TX1) (N := 7) hx hb hts hin_1 hown hK hP 0 rfl rfl 5 (by decide) hf_29 (fun _ h9 => h9) rfl dX1_takeBack_37 ?_
    refine lv_iload_n hx hb dX1_takeBack_40 rfl (lv_at hl 1 rfl) ?_
    refine lv_aload_n hx hb dX1_takeBack_41 rfl (lv_at hl 0 rfl) ?_
    refine va_get (D := (dC, dI)) (ci := 1) (v := .ref (a 7)) (C := RX1) (T := TX1) (N := 7) hx hb hts hin_1 hown hK hP 0 rfl rfl 5 (by decide) hf_29 (fun _ h9 => h9) rfl dX1_takeBack_42 ?_
    refine lv_iload_n hx hb dX1_takeBack_45 rfl (lv_at hl 1 rfl) ?_
    refine zq_dald hx hb hK hP 6 2 rfl rfl (j := j) (by omega) (by decide) dX1_takeBack_46 ?_
    refine lv_ldc2d hx hb hown hc_40 dX1_takeBack_47 ?_
    refine lv_dmul hx hb dX1_takeBack_50 (zn_n64 (zn_mul97 hc)) ?_
    refine zq_dast hx hb hK hP hD hS 6 2 rfl rfl (j := j) (by omega) (by decide) (wLa a cI cZ cD ki (upd pl j 0) (upd tu j ((tu j) + 1)) (upd le j 1) ch (vf_upd ca j (FP.dmul (ca j) 4606912202822375178)) (nI N)) rfl dX1_takeBack_51 (fun H locs hP hD hS => ?_)
    refine lv_aload_n hx hb dX1_takeBack_52 rfl (lv_at hl 0 rfl) ?_
    refine va_get (D := (dC, dI)) (ci := 1) (v := .ref (a 6)) (C := RX1) (T := TX1) (N := 7) hx hb hts hin_1 hown hK hP 0 rfl rfl 4 (by decide) hf_25 (fun _ h9 => h9) rfl dX1_takeBack_53 ?_
    refine lv_iload_n hx hb dX1_takeBack_56 rfl (lv_at hl 1 rfl) ?_
    refine zq_dald hx hb hK hP 5 2 rfl rfl (j := j) (by omega) (by decide) dX1_takeBack_57 ?_
    refine lv_aload_n hx hb dX1_takeBack_58 rfl (lv_at hl 0 rfl) ?_
    refine va_get (D := (dC, dI)) (ci := 1) (v := .ref (a 7)) (C := RX1) (T := TX1) (N := 7) hx hb hts hin_1 hown hK hP 0 rfl rfl 5 (by decide) hf_29 (fun _ h9 => h9) rfl dX1_takeBack_59 ?_
    refine lv_iload_n hx hb dX1_takeBack_62 rfl (lv_at hl 1 rfl) ?_
    refine zq_dald hx hb hK hP 6 2 rfl rfl (j := j) (by omega) (by decide) dX1_takeBack_63 ?_
    rw [zq_vus]
    refine lv_dcmp hx hb dX1_takeBack_64 ?_
    refine lv_if_le (tgt := 80) hx hb dX1_takeBack_65 (by decide) (fun c_8 => ?_) (fun c_8 => ?_)
    · have e_9 : (upd tu j (tu j + 1)) = (upd tu j ((tu j) + 1)) := by simp [la_rem, la_gt, zq_vus, c_0, c_8]
      have e_10 : (if la_rem (tu j + 1) = 0 then upd le j 1 else le) = (upd le j 1) := by simp [la_rem, la_gt, zq_vus, c_0, c_8]
      have e_11 : (if la_gt (ch j) (FP.dmul (ca j) 4606912202822375178) = true then vf_upd ch j (FP.dmul (ca j) 4606912202822375178) else ch) = ch := by simp [la_rem, la_gt, zq_vus, c_0, c_8]
      exact W.vret hx hb hr (zq_qv (by rw [e_9, e_10, e_11]; exact hP) hK (by rw [e_9, e_10, e_11]; exact hD) hS) hS.2.2 dX1_takeBack_80
    · refine lv_aload_n hx hb dX1_takeBack_68 rfl (lv_at hl 0 rfl) ?_
      refine va_get (D := (dC, dI)) (ci := 1) (v := .ref (a 6)) (C := RX1) (T := TX1) (N := 7) hx hb hts hin_1 hown hK hP 0 rfl rfl 4 (by decide) hf_25 (fun _ h9 => h9) rfl dX1_takeBack_69 ?_
      refine lv_iload_n hx hb dX1_takeBack_72 rfl (lv_at hl 1 rfl) ?_
      refine lv_aload_n hx hb dX1_takeBack_73 rfl (lv_at hl 0 rfl) ?_
      refine va_get (D := (dC, dI)) (ci := 1) (v := .ref (a 7)) (C := RX1) (T := TX1) (N := 7) hx hb hts hin_1 hown hK hP 0 rfl rfl 5 (by decide) hf_29 (fun _ h9 => h9) rfl dX1_takeBack_74 ?_
      refine lv_iload_n hx hb dX1_takeBack_77 rfl (lv_at hl 1 rfl) ?_
      refine zq_dald hx hb hK hP 6 2 rfl rfl (j := j) (by omega) (by decide) dX1_takeBack_78 ?_
      rw [zq_vus]
      refine zq_dast hx hb hK hP hD hS 5 2 rfl rfl (j := j) (by omega) (by decide) (wLa a cI cZ cD ki (upd pl j 0) (upd tu j ((tu j) + 1)) (upd le j 1) (vf_upd ch j (FP.dmul (ca j) 4606912202822375178)) (vf_upd ca j (FP.dmul (ca j) 4606912202822375178)) (nI N)) rfl dX1_takeBack_79 (fun H locs hP hD hS => ?_)
      have e_12 : (upd tu j (tu j + 1)) = (upd tu j ((tu j) + 1)) := by simp [la_rem, la_gt, zq_vus, c_0, c_8]
      have e_13 : (if la_rem (tu j + 1) = 0 then upd le j 1 else le) = (upd le j 1) := by simp [la_rem, la_gt, zq_vus, c_0, c_8]
      have e_14 : (if la_gt (ch j) (FP.dmul (ca j) 4606912202822375178) = true then vf_upd ch j (FP.dmul (ca j) 4606912202822375178) else ch) = (vf_upd ch j (FP.dmul (ca j) 4606912202822375178)) := by simp [la_rem, la_gt, zq_vus, c_0, c_8]
      exact W.vret hx hb hr (zq_qv (by rw [e_12, e_13, e_14]; exact hP) hK (by rw [e_12, e_13, e_14]; exact hD) hS) hS.2.2 dX1_takeBack_80

set_option maxHeartbeats 4000000 in
set_option maxRecDepth 100000 in
theorem c_X1_faultAt (l : Launch) (dC : Nat → ClassId) (dI : Nat → Nat → Nat) (a : Nat → Nat) (cI cZ cD : ClassId) (ki pl tu le : Nat → Int32) (ch ca : Nat → UInt64) (N : Nat) (hN : N ≤ 40) (j : Nat) (hj : j < 40) (sz : Nat) : zq_Mi l yX1_faultAt wsX1_faultAt ({ frames := 1, cells := 0, slots := 0, locals := 20 } : Room) (dC, dI) (zq_T cI cZ cD) [.ref (a 1), .int (nI j)] (wLa a cI cZ cD ki pl tu le ch ca (nI N)) (la_fault le ki ca j) (wLa a cI cZ cD ki pl tu le ch ca (nI N)) sz := by
  refine Met.ofW (cc := cX1_faultAt) (maxL := 2) (ret := (some .int)) (by decide) rfl ?_
  intro p e s m args below meth c s₁ B hml hv
  obtain ⟨rfl, hsz, hP, hK, hD0⟩ := hv
  have hx := B.exec
  have hb := B.bytes
  have hr := B.returns
  have hts := atoms_spec (ws := wsX1_faultAt) B.pre
  have hown : s.vm.findClass RX1 = some m.cls := findClass_of_methodNamed B.named
  have hlocks := B.notSynchronized
  subst hsz
  have hD := hD0.self (sz := s.heap.size)
  generalize hAe : va_A (wLa a cI cZ cD ki pl tu le ch ca (nI N)) s.heap.size = A at hD ⊢
  have hA : ∀ q : Nat, s.heap.size ≤ q → A q := fun q h => by rw [← hAe]; exact Or.inr h
  have hS : va_S A s.heap s.heap [] := va_S.rf
  have hP : va_P (dC, dI) vwCl (wLa a cI cZ cD ki pl tu le ch ca (nI N)) s.heap := hP
  have hl := lv_entry ([.ref (a 1), .int (nI j)]) (n := 2) (Nat.le_of_ble_eq_true rfl)
  rw [lg_entry_eq]
  generalize (lg_sl ([.ref (a 1), .int (nI j)]) ++ List.replicate (2 - (lg_sl ([.ref (a 1), .int (nI j)])).length) Slot.unset).toArray = ls at hl ⊢
  have hl : lv_has ls 2 [(0, .ref (a 1)), (1, .int (nI j))] := hl
  have hf_21 := hts (.fieldLink RX1 21 "LampRoom$Lamps" "leaks" "[Z") (by decide +kernel)
  have hin_1 : ∀ w ∈ wsX10, w ∈ wsX1_faultAt := by decide +kernel
  have hf_29 := hts (.fieldLink RX1 29 "LampRoom$Lamps" "capacities" "[D") (by decide +kernel)
  have hc_42 := hts (.constantDouble RX1 42 (4604930618986332160)) (by decide +kernel)
  have hf_9 := hts (.fieldLink RX1 9 "LampRoom$Lamps" "kinds" "[I") (by decide +kernel)
  refine lv_aload_n hx hb dX1_faultAt_0 rfl (lv_at hl 0 rfl) ?_
  refine va_get (D := (dC, dI)) (ci := 1) (v := .ref (a 5)) (C := RX1) (T := TX1) (N := 7) hx hb hts hin_1 hown hK hP 0 rfl rfl 3 (by decide) hf_21 (fun _ h9 => h9) rfl dX1_faultAt_1 ?_
  refine lv_iload_n hx hb dX1_faultAt_4 rfl (lv_at hl 1 rfl) ?_
  refine zq_zald hx hb hK hP 4 1 rfl rfl (j := j) (by omega) (by decide) dX1_faultAt_5 ?_
  refine lv_if_eq (tgt := 11) hx hb dX1_faultAt_6 (by decide) (fun c_0 => ?_) (fun c_0 => ?_)
  · refine lv_aload_n hx hb dX1_faultAt_11 rfl (lv_at hl 0 rfl) ?_
    refine va_get (D := (dC, dI)) (ci := 1) (v := .ref (a 7)) (C := RX1) (T := TX1) (N := 7) hx hb hts hin_1 hown hK hP 0 rfl rfl 5 (by decide) hf_29 (fun _ h9 => h9) rfl dX1_faultAt_12 ?_
    refine lv_iload_n hx hb dX1_faultAt_15 rfl (lv_at hl 1 rfl) ?_
    refine zq_dald hx hb hK hP 6 2 rfl rfl (j := j) (by omega) (by decide) dX1_faultAt_16 ?_
    refine lv_ldc2d hx hb hown hc_42 dX1_faultAt_17 ?_
    refine lv_aload_n hx hb dX1_faultAt_20 rfl (lv_at hl 0 rfl) ?_
    refine va_get (D := (dC, dI)) (ci := 1) (v := .ref (a 2)) (C := RX1) (T := TX1) (N := 7) hx hb hts hin_1 hown hK hP 0 rfl rfl 0 (by decide) hf_9 (fun _ h9 => h9) rfl dX1_faultAt_21 ?_
    refine lv_iload_n hx hb dX1_faultAt_24 rfl (lv_at hl 1 rfl) ?_
    refine zq_iald hx hb hK hP 1 0 rfl rfl (j := j) (by omega) (by decide) dX1_faultAt_25 ?_
    refine zq_cSd (As := [.int (ki j)]) (rest := [.double 4604930618986332160, .double (ca j)]) ⟨hx, hb, hml, hown, hts⟩ (c_X1_newCapacity l (ki j)) (va_cwS 1 hts gX1_faultAt_X1_newCapacity rfl rfl rfl (by decide +kernel) ⟨Nat.le_of_ble_eq_true rfl, Nat.le_of_ble_eq_true rfl⟩) hP hS rfl hl.1 rfl (Nat.le_of_ble_eq_true rfl) dX1_faultAt_26 ⟨Nat.zero_le _, Nat.zero_le _⟩ (fun H locs hP hS => ?_)
    refine lv_dmul hx hb dX1_faultAt_29 (zn_w75 _) ?_
    refine lv_dcmp hx hb dX1_faultAt_30 ?_
    refine lv_if_ge (tgt := 38) hx hb dX1_faultAt_31 (by decide) (fun c_1 => ?_) (fun c_1 => ?_)
    · refine lv_iconst (v := 0) hx hb dX1_faultAt_38 (by decide) ?_
      exact W.iret (v := 0) hx hb hr (zq_qi (by first | with_reducible rfl | simp [la_fault, la_weak, la_lt, c_0, c_1]) hP hK hD hS) hS.2.2 dX1_faultAt_39
    · refine lv_iconst (v := 2) hx hb dX1_faultAt_34 (by decide) ?_
      refine lv_goto (tgt := 39) hx hb dX1_faultAt_35 (by decide) ?_
      exact W.iret (v := 2) hx hb hr (zq_qi (by first | with_reducible rfl | simp [la_fault, la_weak, la_lt, c_0, c_1]) hP hK hD hS) hS.2.2 dX1_faultAt_39
  · refine lv_iconst (v := 1) hx hb dX1_faultAt_9 (by decide) ?_
    exact W.iret (v := 1) hx hb hr (zq_qi (by first | with_reducible rfl | simp [la_fault, la_weak, la_lt, c_0]) hP hK hD hS) hS.2.2 dX1_faultAt_10

set_option maxHeartbeats 4000000 in
set_option maxRecDepth 100000 in
theorem c_X1_burn (l : Launch) (dC : Nat → ClassId) (dI : Nat → Nat → Nat) (a : Nat → Nat) (cI cZ cD : ClassId) (ki pl tu le : Nat → Int32) (ch ca : Nat → UInt64) (N : Nat) (hN : N ≤ 40) (hp : ∀ i, i < 40 → zn_p (ch i)) (sz : Nat) : zq_Mv l yX1_burn wsX1_burn ({ frames := 0, cells := 0, slots := 0, locals := 0 } : Room) (dC, dI) (zq_T cI cZ cD) [.ref (a 1)] (wLa a cI cZ cD ki pl tu le ch ca (nI N)) (wLa a cI cZ cD ki pl tu le (la_burn pl le ch N) ca (nI N)) sz := by
  refine Met.ofW (cc := cX1_burn) (maxL := 4) (ret := none) (by decide) rfl ?_
  intro p e s m args below meth c s₁ B hml hv
  obtain ⟨rfl, hsz, hP, hK, hD0⟩ := hv
  have hx := B.exec
  have hb := B.bytes
  have hr := B.returns
  have hts := atoms_spec (ws := wsX1_burn) B.pre
  have hown : s.vm.findClass RX1 = some m.cls := findClass_of_methodNamed B.named
  have hlocks := B.notSynchronized
  subst hsz
  have hD := hD0.self (sz := s.heap.size)
  generalize hAe : va_A (wLa a cI cZ cD ki pl tu le ch ca (nI N)) s.heap.size = A at hD ⊢
  have hA : ∀ q : Nat, s.heap.size ≤ q → A q := fun q h => by rw [← hAe]; exact Or.inr h
  have hS : va_S A s.heap s.heap [] := va_S.rf
  have hP : va_P (dC, dI) vwCl (wLa a cI cZ cD ki pl tu le ch ca (nI N)) s.heap := hP
  have hl := lv_entry ([.ref (a 1)]) (n := 4) (Nat.le_of_ble_eq_true rfl)
  rw [lg_entry_eq]
  generalize (lg_sl ([.ref (a 1)]) ++ List.replicate (4 - (lg_sl ([.ref (a 1)])).length) Slot.unset).toArray = ls at hl ⊢
  have hl : lv_has ls 4 [(0, .ref (a 1))] := hl
  have hf_32 := hts (.fieldLink RX1 32 "LampRoom$Lamps" "count" "I") (by decide +kernel)
  have hin_1 : ∀ w ∈ wsX10, w ∈ wsX1_burn := by decide +kernel
  have hf_15 := hts (.fieldLink RX1 15 "LampRoom$Lamps" "places" "[I") (by decide +kernel)
  have hf_21 := hts (.fieldLink RX1 21 "LampRoom$Lamps" "leaks" "[Z") (by decide +kernel)
  have hf_25 := hts (.fieldLink RX1 25 "LampRoom$Lamps" "charges" "[D") (by decide +kernel)
  have hc_54 := hts (.constantDouble RX1 54 (4609434218613702656)) (by decide +kernel)
  refine lv_iconst (v := 0) hx hb dX1_burn_0 (by decide) ?_
  refine lv_istore_n (lv' := [(1, .int 0), (0, .ref (a 1))]) hx hb dX1_burn_1 rfl hl (by decide) rfl (fun ls hl => ?_)
  refine zq_loop 2 N (fun i H locs ls => va_P (dC, dI) vwCl (wLa a cI cZ cD ki pl tu le (la_burn pl le ch i) ca (nI N)) H ∧ va_D A (wLa a cI cZ cD ki pl tu le (la_burn pl le ch i) ca (nI N)) ∧ va_S A s.heap H locs ∧ lv_has ls 4 [(1, .int (nI i)), (0, .ref (a 1))]) ?_ 0 (by omega) _ _ _ ⟨hP, hD, hS, lv_sub hl [0, 1] rfl⟩
  intro i hi_i ih_i H locs ls hh
  obtain ⟨hP, hD, hS, hl⟩ := hh
  refine lv_iload_n hx hb dX1_burn_2 rfl (lv_at hl 0 rfl) ?_
  refine lv_aload_n hx hb dX1_burn_3 rfl (lv_at hl 1 rfl) ?_
  refine va_get (D := (dC, dI)) (ci := 1) (v := .int (nI N)) (C := RX1) (T := TX1) (N := 7) hx hb hts hin_1 hown hK hP 0 rfl rfl 6 (by decide) hf_32 (fun _ h9 => h9) rfl dX1_burn_4 ?_
  refine lv_icmp_ge (tgt := 72) hx hb dX1_burn_7 (by decide) (fun c_0 => ?_) (fun c_0 => ?_)
  · have d_0 := (nI_leI (a := N) (b := i) (by omega) (by omega)).mp c_0
    have ei_i : i = N := by omega
    have e_1 : (la_burn pl le ch N) = (la_burn pl le ch i) := by first | with_reducible rfl | simp [d_0, ei_i]
    exact W.vret hx hb hr (zq_qv (by rw [e_1]; exact hP) hK (by rw [e_1]; exact hD) hS) hS.2.2 dX1_burn_72
  · have d_0 := Nat.not_le.mp (fun h => c_0 ((nI_leI (a := N) (b := i) (by omega) (by omega)).mpr h))
    refine lv_aload_n hx hb dX1_burn_10 rfl (lv_at hl 1 rfl) ?_
    refine va_get (D := (dC, dI)) (ci := 1) (v := .ref (a 3)) (C := RX1) (T := TX1) (N := 7) hx hb hts hin_1 hown hK hP 0 rfl rfl 1 (by decide) hf_15 (fun _ h9 => h9) rfl dX1_burn_11 ?_
    refine lv_iload_n hx hb dX1_burn_14 rfl (lv_at hl 0 rfl) ?_
    refine zq_iald hx hb hK hP 2 0 rfl rfl (j := i) (by omega) (by decide) dX1_burn_15 ?_
    refine lv_iconst (v := 1) hx hb dX1_burn_16 (by decide) ?_
    refine lv_icmp_ne (tgt := 66) hx hb dX1_burn_17 (by decide) (fun c_2 => ?_) (fun c_2 => ?_)
    · refine lv_iinc (v := nI (i + 1)) (lv' := [(1, .int (nI (i + 1))), (0, .ref (a 1))]) hx hb dX1_burn_66 hl (k := 0) rfl (nI_add _ 1) (by decide) rfl (fun ls hl => ?_)
      refine lv_goto (tgt := 2) hx hb dX1_burn_69 (by decide) ?_
      have e_3 : (la_burn pl le ch (i + 1)) = (la_burn pl le ch i) := by simp [la_burn, la_b1, la_loss, la_gt, d_0, c_2]
      exact ih_i _ _ _ (by omega) ⟨(by (try rw [e_3]); exact hP), (by (try rw [e_3]); exact hD), hS, (by (try rw [e_3]); exact lv_sub hl [0, 1] rfl)⟩
    · refine lv_aload_n hx hb dX1_burn_20 rfl (lv_at hl 1 rfl) ?_
      refine va_get (D := (dC, dI)) (ci := 1) (v := .ref (a 5)) (C := RX1) (T := TX1) (N := 7) hx hb hts hin_1 hown hK hP 0 rfl rfl 3 (by decide) hf_21 (fun _ h9 => h9) rfl dX1_burn_21 ?_
      refine lv_iload_n hx hb dX1_burn_24 rfl (lv_at hl 0 rfl) ?_
      refine zq_zald hx hb hK hP 4 1 rfl rfl (j := i) (by omega) (by decide) dX1_burn_25 ?_
      refine lv_if_eq (tgt := 35) hx hb dX1_burn_26 (by decide) (fun c_4 => ?_) (fun c_4 => ?_)
      · refine zq_dconst1 hx hb dX1_burn_35 ?_
        refine lv_dstore_n (lv' := [(2, .double 4607182418800017408), (1, .int (nI i)), (0, .ref (a 1))]) hx hb dX1_burn_36 rfl hl (by decide) rfl (fun ls hl => ?_)
        refine lv_aload_n hx hb dX1_burn_37 rfl (lv_at hl 2 rfl) ?_
        refine va_get (D := (dC, dI)) (ci := 1) (v := .ref (a 6)) (C := RX1) (T := TX1) (N := 7) hx hb hts hin_1 hown hK hP 0 rfl rfl 4 (by decide) hf_25 (fun _ h9 => h9) rfl dX1_burn_38 ?_
        refine lv_iload_n hx hb dX1_burn_41 rfl (lv_at hl 1 rfl) ?_
        refine lv_aload_n hx hb dX1_burn_42 rfl (lv_at hl 2 rfl) ?_
        refine va_get (D := (dC, dI)) (ci := 1) (v := .ref (a 6)) (C := RX1) (T := TX1) (N := 7) hx hb hts hin_1 hown hK hP 0 rfl rfl 4 (by decide) hf_25 (fun _ h9 => h9) rfl dX1_burn_43 ?_
        refine lv_iload_n hx hb dX1_burn_46 rfl (lv_at hl 1 rfl) ?_
        refine zq_dald hx hb hK hP 5 2 rfl rfl (j := i) (by omega) (by decide) dX1_burn_47 ?_
        refine lv_dload_n hx hb dX1_burn_48 rfl (lv_at hl 0 rfl) ?_
        refine lv_dcmp hx hb dX1_burn_49 ?_
        refine lv_if_le (tgt := 64) hx hb dX1_burn_50 (by decide) (fun c_5 => ?_) (fun c_5 => ?_)
        · refine zq_dconst0 hx hb dX1_burn_64 ?_
          refine zq_dast hx hb hK hP hD hS 5 2 rfl rfl (j := i) (by omega) (by decide) (wLa a cI cZ cD ki pl tu le (vf_upd (la_burn pl le ch i) i 0) ca (nI N)) rfl dX1_burn_65 (fun H locs hP hD hS => ?_)
          refine lv_iinc (v := nI (i + 1)) (lv' := [(1, .int (nI (i + 1))), (2, .double 4607182418800017408), (0, .ref (a 1))]) hx hb dX1_burn_66 hl (k := 1) rfl (nI_add _ 1) (by decide) rfl (fun ls hl => ?_)
          refine lv_goto (tgt := 2) hx hb dX1_burn_69 (by decide) ?_
          have e_6 : (la_burn pl le ch (i + 1)) = (vf_upd (la_burn pl le ch i) i 0) := by simp [la_burn, la_b1, la_loss, la_gt, d_0, c_2, c_4, c_5]
          exact ih_i _ _ _ (by omega) ⟨(by (try rw [e_6]); exact hP), (by (try rw [e_6]); exact hD), hS, (by (try rw [e_6]); exact lv_sub hl [0, 2] rfl)⟩
        · refine lv_aload_n hx hb dX1_burn_53 rfl (lv_at hl 2 rfl) ?_
          refine va_get (D := (dC, dI)) (ci := 1) (v := .ref (a 6)) (C := RX1) (T := TX1) (N := 7) hx hb hts hin_1 hown hK hP 0 rfl rfl 4 (by decide) hf_25 (fun _ h9 => h9) rfl dX1_burn_54 ?_
          refine lv_iload_n hx hb dX1_burn_57 rfl (lv_at hl 1 rfl) ?_
          refine zq_dald hx hb hK hP 5 2 rfl rfl (j := i) (by omega) (by decide) dX1_burn_58 ?_
          refine lv_dload_n hx hb dX1_burn_59 rfl (lv_at hl 0 rfl) ?_
          refine lv_dsub hx hb dX1_burn_60 (zn_sub_v (z := le i) (by simp [la_loss, d_0, c_2, c_4, c_5]) (zn_burn hp i i (by omega))) ?_
          refine lv_goto (tgt := 65) hx hb dX1_burn_61 (by decide) ?_
          refine zq_dast hx hb hK hP hD hS 5 2 rfl rfl (j := i) (by omega) (by decide) (wLa a cI cZ cD ki pl tu le (vf_upd (la_burn pl le ch i) i (FP.dsub ((la_burn pl le ch i) i) 4607182418800017408)) ca (nI N)) rfl dX1_burn_65 (fun H locs hP hD hS => ?_)
          refine lv_iinc (v := nI (i + 1)) (lv' := [(1, .int (nI (i + 1))), (2, .double 4607182418800017408), (0, .ref (a 1))]) hx hb dX1_burn_66 hl (k := 1) rfl (nI_add _ 1) (by decide) rfl (fun ls hl => ?_)
          refine lv_goto (tgt := 2) hx hb dX1_burn_69 (by decide) ?_
          have e_7 : (la_burn pl le ch (i + 1)) = (vf_upd (la_burn pl le ch i) i (FP.dsub ((la_burn pl le ch i) i) 4607182418800017408)) := by simp [la_burn, la_b1, la_loss, la_gt, d_0, c_2, c_4, c_5]
          exact ih_i _ _ _ (by omega) ⟨(by (try rw [e_7]); exact hP), (by (try rw [e_7]); exact hD), hS, (by (try rw [e_7]); exact lv_sub hl [0, 2] rfl)⟩
      · refine lv_ldc2d hx hb hown hc_54 dX1_burn_29 ?_
        refine lv_goto (tgt := 36) hx hb dX1_burn_32 (by decide) ?_
        refine lv_dstore_n (lv' := [(2, .double 4609434218613702656), (1, .int (nI i)), (0, .ref (a 1))]) hx hb dX1_burn_36 rfl hl (by decide) rfl (fun ls hl => ?_)
        refine lv_aload_n hx hb dX1_burn_37 rfl (lv_at hl 2 rfl) ?_
        refine va_get (D := (dC, dI)) (ci := 1) (v := .ref (a 6)) (C := RX1) (T := TX1) (N := 7) hx hb hts hin_1 hown hK hP 0 rfl rfl 4 (by decide) hf_25 (fun _ h9 => h9) rfl dX1_burn_38 ?_
        refine lv_iload_n hx hb dX1_burn_41 rfl (lv_at hl 1 rfl) ?_
        refine lv_aload_n hx hb dX1_burn_42 rfl (lv_at hl 2 rfl) ?_
        refine va_get (D := (dC, dI)) (ci := 1) (v := .ref (a 6)) (C := RX1) (T := TX1) (N := 7) hx hb hts hin_1 hown hK hP 0 rfl rfl 4 (by decide) hf_25 (fun _ h9 => h9) rfl dX1_burn_43 ?_
        refine lv_iload_n hx hb dX1_burn_46 rfl (lv_at hl 1 rfl) ?_
        refine zq_dald hx hb hK hP 5 2 rfl rfl (j := i) (by omega) (by decide) dX1_burn_47 ?_
        refine lv_dload_n hx hb dX1_burn_48 rfl (lv_at hl 0 rfl) ?_
        refine lv_dcmp hx hb dX1_burn_49 ?_
        refine lv_if_le (tgt := 64) hx hb dX1_burn_50 (by decide) (fun c_8 => ?_) (fun c_8 => ?_)
        · refine zq_dconst0 hx hb dX1_burn_64 ?_
          refine zq_dast hx hb hK hP hD hS 5 2 rfl rfl (j := i) (by omega) (by decide) (wLa a cI cZ cD ki pl tu le (vf_upd (la_burn pl le ch i) i 0) ca (nI N)) rfl dX1_burn_65 (fun H locs hP hD hS => ?_)
          refine lv_iinc (v := nI (i + 1)) (lv' := [(1, .int (nI (i + 1))), (2, .double 4609434218613702656), (0, .ref (a 1))]) hx hb dX1_burn_66 hl (k := 1) rfl (nI_add _ 1) (by decide) rfl (fun ls hl => ?_)
          refine lv_goto (tgt := 2) hx hb dX1_burn_69 (by decide) ?_
          have e_9 : (la_burn pl le ch (i + 1)) = (vf_upd (la_burn pl le ch i) i 0) := by simp [la_burn, la_b1, la_loss, la_gt, d_0, c_2, c_4, c_8]
          exact ih_i _ _ _ (by omega) ⟨(by (try rw [e_9]); exact hP), (by (try rw [e_9]); exact hD), hS, (by (try rw [e_9]); exact lv_sub hl [0, 2] rfl)⟩
        · refine lv_aload_n hx hb dX1_burn_53 rfl (lv_at hl 2 rfl) ?_
          refine va_get (D := (dC, dI)) (ci := 1) (v := .ref (a 6)) (C := RX1) (T := TX1) (N := 7) hx hb hts hin_1 hown hK hP 0 rfl rfl 4 (by decide) hf_25 (fun _ h9 => h9) rfl dX1_burn_54 ?_
          refine lv_iload_n hx hb dX1_burn_57 rfl (lv_at hl 1 rfl) ?_
          refine zq_dald hx hb hK hP 5 2 rfl rfl (j := i) (by omega) (by decide) dX1_burn_58 ?_
          refine lv_dload_n hx hb dX1_burn_59 rfl (lv_at hl 0 rfl) ?_
          refine lv_dsub hx hb dX1_burn_60 (zn_sub_v (z := le i) (by simp [la_loss, d_0, c_2, c_4, c_8]) (zn_burn hp i i (by omega))) ?_
          refine lv_goto (tgt := 65) hx hb dX1_burn_61 (by decide) ?_
          refine zq_dast hx hb hK hP hD hS 5 2 rfl rfl (j := i) (by omega) (by decide) (wLa a cI cZ cD ki pl tu le (vf_upd (la_burn pl le ch i) i (FP.dsub ((la_burn pl le ch i) i) 4609434218613702656)) ca (nI N)) rfl dX1_burn_65 (fun H locs hP hD hS => ?_)
          refine lv_iinc (v := nI (i + 1)) (lv' := [(1, .int (nI (i + 1))), (2, .double 4609434218613702656), (0, .ref (a 1))]) hx hb dX1_burn_66 hl (k := 1) rfl (nI_add _ 1) (by decide) rfl (fun ls hl => ?_)
          refine lv_goto (tgt := 2) hx hb dX1_burn_69 (by decide) ?_
          have e_10 : (la_burn pl le ch (i + 1)) = (vf_upd (la_burn pl le ch i) i (FP.dsub ((la_burn pl le ch i) i) 4609434218613702656)) := by simp [la_burn, la_b1, la_loss, la_gt, d_0, c_2, c_4, c_8]
          exact ih_i _ _ _ (by omega) ⟨(by (try rw [e_10]); exact hP), (by (try rw [e_10]); exact hD), hS, (by (try rw [e_10]); exact lv_sub hl [0, 2] rfl)⟩

set_option maxHeartbeats 4000000 in
set_option maxRecDepth 100000 in
theorem c_X1_load (l : Launch) (dC : Nat → ClassId) (dI : Nat → Nat → Nat) (a : Nat → Nat) (cI cZ cD : ClassId) (ki pl tu le : Nat → Int32) (ch ca : Nat → UInt64) (N : Nat) (hN : N ≤ 40) (hp : ∀ i, i < 40 → zn_p (ch i)) (hc : ∀ i, i < 40 → zn_p (ca i)) (sz : Nat) : zq_Mv l yX1_load wsX1_load ({ frames := 0, cells := 0, slots := 0, locals := 0 } : Room) (dC, dI) (zq_T cI cZ cD) [.ref (a 1)] (wLa a cI cZ cD ki pl tu le ch ca (nI N)) (wLa a cI cZ cD ki pl tu le ((la_lo pl ch ca N).1) ca (nI N)) sz := by
  refine Met.ofW (cc := cX1_load) (maxL := 5) (ret := none) (by decide) rfl ?_
  intro p e s m args below meth c s₁ B hml hv
  obtain ⟨rfl, hsz, hP, hK, hD0⟩ := hv
  have hx := B.exec
  have hb := B.bytes
  have hr := B.returns
  have hts := atoms_spec (ws := wsX1_load) B.pre
  have hown : s.vm.findClass RX1 = some m.cls := findClass_of_methodNamed B.named
  have hlocks := B.notSynchronized
  subst hsz
  have hD := hD0.self (sz := s.heap.size)
  generalize hAe : va_A (wLa a cI cZ cD ki pl tu le ch ca (nI N)) s.heap.size = A at hD ⊢
  have hA : ∀ q : Nat, s.heap.size ≤ q → A q := fun q h => by rw [← hAe]; exact Or.inr h
  have hS : va_S A s.heap s.heap [] := va_S.rf
  have hP : va_P (dC, dI) vwCl (wLa a cI cZ cD ki pl tu le ch ca (nI N)) s.heap := hP
  have hl := lv_entry ([.ref (a 1)]) (n := 5) (Nat.le_of_ble_eq_true rfl)
  rw [lg_entry_eq]
  generalize (lg_sl ([.ref (a 1)]) ++ List.replicate (5 - (lg_sl ([.ref (a 1)])).length) Slot.unset).toArray = ls at hl ⊢
  have hl : lv_has ls 5 [(0, .ref (a 1))] := hl
  have hf_32 := hts (.fieldLink RX1 32 "LampRoom$Lamps" "count" "I") (by decide +kernel)
  have hin_1 : ∀ w ∈ wsX10, w ∈ wsX1_load := by decide +kernel
  have hf_15 := hts (.fieldLink RX1 15 "LampRoom$Lamps" "places" "[I") (by decide +kernel)
  have hf_25 := hts (.fieldLink RX1 25 "LampRoom$Lamps" "charges" "[D") (by decide +kernel)
  have hf_29 := hts (.fieldLink RX1 29 "LampRoom$Lamps" "capacities" "[D") (by decide +kernel)
  have hc_56 := hts (.constantDouble RX1 56 (4612811918334230528)) (by decide +kernel)
  refine lv_iconst (v := 5) hx hb dX1_load_0 (by decide) ?_
  refine lv_istore_n (lv' := [(1, .int 5), (0, .ref (a 1))]) hx hb dX1_load_1 rfl hl (by decide) rfl (fun ls hl => ?_)
  refine lv_iconst (v := 0) hx hb dX1_load_2 (by decide) ?_
  refine lv_istore_n (lv' := [(2, .int 0), (1, .int 5), (0, .ref (a 1))]) hx hb dX1_load_3 rfl hl (by decide) rfl (fun ls hl => ?_)
  refine zq_loop 4 N (fun i H locs ls => va_P (dC, dI) vwCl (wLa a cI cZ cD ki pl tu le ((la_lo pl ch ca i).1) ca (nI N)) H ∧ va_D A (wLa a cI cZ cD ki pl tu le ((la_lo pl ch ca i).1) ca (nI N)) ∧ va_S A s.heap H locs ∧ lv_has ls 5 [(1, .int (nI (5 - (la_lo pl ch ca i).2))), (2, .int (nI i)), (0, .ref (a 1))]) ?_ 0 (by omega) _ _ _ ⟨hP, hD, hS, lv_sub hl [1, 0, 2] rfl⟩
  intro i hi_i ih_i H locs ls hh
  obtain ⟨hP, hD, hS, hl⟩ := hh
  refine lv_iload_n hx hb dX1_load_4 rfl (lv_at hl 1 rfl) ?_
  refine lv_aload_n hx hb dX1_load_5 rfl (lv_at hl 2 rfl) ?_
  refine va_get (D := (dC, dI)) (ci := 1) (v := .int (nI N)) (C := RX1) (T := TX1) (N := 7) hx hb hts hin_1 hown hK hP 0 rfl rfl 6 (by decide) hf_32 (fun _ h9 => h9) rfl dX1_load_6 ?_
  refine lv_icmp_ge (tgt := 88) hx hb dX1_load_9 (by decide) (fun c_0 => ?_) (fun c_0 => ?_)
  · have d_0 := (nI_leI (a := N) (b := i) (by omega) (by omega)).mp c_0
    have ei_i : i = N := by omega
    have e_1 : ((la_lo pl ch ca N).1) = ((la_lo pl ch ca i).1) := by rw [ei_i]
    exact W.vret hx hb hr (zq_qv (by rw [e_1]; exact hP) hK (by rw [e_1]; exact hD) hS) hS.2.2 dX1_load_88
  · have d_0 := Nat.not_le.mp (fun h => c_0 ((nI_leI (a := N) (b := i) (by omega) (by omega)).mpr h))
    refine lv_iload_n hx hb dX1_load_12 rfl (lv_at hl 0 rfl) ?_
    refine lv_if_le (tgt := 88) hx hb dX1_load_13 (by decide) (fun c_2 => ?_) (fun c_2 => ?_)
    · have hu : (la_lo pl ch ca i).2 = 5 := by have h9 := la_lo_le pl ch ca i; have h8 := zq_le0 c_2 (by omega); omega
      have e_3 : ((la_lo pl ch ca N).1) = ((la_lo pl ch ca i).1) := by rw [show N = i + (N - i) by omega, la_lo_stop hu]
      exact W.vret hx hb hr (zq_qv (by rw [e_3]; exact hP) hK (by rw [e_3]; exact hD) hS) hS.2.2 dX1_load_88
    · have hu : (la_lo pl ch ca i).2 < 5 := by have h8 := zq_nle0 c_2 (by omega); omega
      refine lv_aload_n hx hb dX1_load_16 rfl (lv_at hl 2 rfl) ?_
      refine va_get (D := (dC, dI)) (ci := 1) (v := .ref (a 3)) (C := RX1) (T := TX1) (N := 7) hx hb hts hin_1 hown hK hP 0 rfl rfl 1 (by decide) hf_15 (fun _ h9 => h9) rfl dX1_load_17 ?_
      refine lv_iload_n hx hb dX1_load_20 rfl (lv_at hl 1 rfl) ?_
      refine zq_iald hx hb hK hP 2 0 rfl rfl (j := i) (by omega) (by decide) dX1_load_21 ?_
      refine lv_if_ne (tgt := 82) hx hb dX1_load_22 (by decide) (fun c_4 => ?_) (fun c_4 => ?_)
      · refine lv_iinc (v := nI (i + 1)) (lv' := [(2, .int (nI (i + 1))), (1, .int (nI (5 - (la_lo pl ch ca i).2))), (0, .ref (a 1))]) hx hb dX1_load_82 hl (k := 1) rfl (nI_add _ 1) (by decide) rfl (fun ls hl => ?_)
        refine lv_goto (tgt := 4) hx hb dX1_load_85 (by decide) ?_
        have e_5 : ((la_lo pl ch ca (i + 1)).1) = ((la_lo pl ch ca i).1) := by rw [la_lo_f (by simp [la_ldo, la_lt, d_0, c_2, c_4])]
        have e_6 : (nI (5 - (la_lo pl ch ca (i + 1)).2)) = (nI (5 - (la_lo pl ch ca i).2)) := by rw [la_lo_f (by simp [la_ldo, la_lt, d_0, c_2, c_4])]
        exact ih_i _ _ _ (by omega) ⟨(by (try rw [e_5]); (try rw [e_6]); exact hP), (by (try rw [e_5]); (try rw [e_6]); exact hD), hS, (by (try rw [e_5]); (try rw [e_6]); exact lv_sub hl [1, 0, 2] rfl)⟩
      · refine lv_aload_n hx hb dX1_load_25 rfl (lv_at hl 2 rfl) ?_
        refine va_get (D := (dC, dI)) (ci := 1) (v := .ref (a 6)) (C := RX1) (T := TX1) (N := 7) hx hb hts hin_1 hown hK hP 0 rfl rfl 4 (by decide) hf_25 (fun _ h9 => h9) rfl dX1_load_26 ?_
        refine lv_iload_n hx hb dX1_load_29 rfl (lv_at hl 1 rfl) ?_
        refine zq_dald hx hb hK hP 5 2 rfl rfl (j := i) (by omega) (by decide) dX1_load_30 ?_
        refine lv_aload_n hx hb dX1_load_31 rfl (lv_at hl 2 rfl) ?_
        refine va_get (D := (dC, dI)) (ci := 1) (v := .ref (a 7)) (C := RX1) (T := TX1) (N := 7) hx hb hts hin_1 hown hK hP 0 rfl rfl 5 (by decide) hf_29 (fun _ h9 => h9) rfl dX1_load_32 ?_
        refine lv_iload_n hx hb dX1_load_35 rfl (lv_at hl 1 rfl) ?_
        refine zq_dald hx hb hK hP 6 2 rfl rfl (j := i) (by omega) (by decide) dX1_load_36 ?_
        refine lv_dcmp hx hb dX1_load_37 ?_
        refine lv_if_ge (tgt := 82) hx hb dX1_load_38 (by decide) (fun c_7 => ?_) (fun c_7 => ?_)
        · refine lv_iinc (v := nI (i + 1)) (lv' := [(2, .int (nI (i + 1))), (1, .int (nI (5 - (la_lo pl ch ca i).2))), (0, .ref (a 1))]) hx hb dX1_load_82 hl (k := 1) rfl (nI_add _ 1) (by decide) rfl (fun ls hl => ?_)
          refine lv_goto (tgt := 4) hx hb dX1_load_85 (by decide) ?_
          have e_8 : ((la_lo pl ch ca (i + 1)).1) = ((la_lo pl ch ca i).1) := by rw [la_lo_f (by simp [la_ldo, la_lt, d_0, c_2, c_4, c_7])]
          have e_9 : (nI (5 - (la_lo pl ch ca (i + 1)).2)) = (nI (5 - (la_lo pl ch ca i).2)) := by rw [la_lo_f (by simp [la_ldo, la_lt, d_0, c_2, c_4, c_7])]
          exact ih_i _ _ _ (by omega) ⟨(by (try rw [e_8]); (try rw [e_9]); exact hP), (by (try rw [e_8]); (try rw [e_9]); exact hD), hS, (by (try rw [e_8]); (try rw [e_9]); exact lv_sub hl [1, 0, 2] rfl)⟩
        · refine lv_aload_n hx hb dX1_load_41 rfl (lv_at hl 2 rfl) ?_
          refine va_get (D := (dC, dI)) (ci := 1) (v := .ref (a 6)) (C := RX1) (T := TX1) (N := 7) hx hb hts hin_1 hown hK hP 0 rfl rfl 4 (by decide) hf_25 (fun _ h9 => h9) rfl dX1_load_42 ?_
          refine lv_iload_n hx hb dX1_load_45 rfl (lv_at hl 1 rfl) ?_
          refine zq_dald hx hb hK hP 5 2 rfl rfl (j := i) (by omega) (by decide) dX1_load_46 ?_
          refine lv_ldc2d hx hb hown hc_56 dX1_load_47 ?_
          refine lv_dadd hx hb dX1_load_50 (zn_of_ne (zn_add25 (zn_lo hp hc i i (by omega))).1) ?_
          refine lv_dstore_n (lv' := [(3, .double (FP.dadd (((la_lo pl ch ca i).1) i) 4612811918334230528)), (1, .int (nI (5 - (la_lo pl ch ca i).2))), (2, .int (nI i)), (0, .ref (a 1))]) hx hb dX1_load_51 rfl hl (by decide) rfl (fun ls hl => ?_)
          refine lv_aload_n hx hb dX1_load_52 rfl (lv_at hl 3 rfl) ?_
          refine va_get (D := (dC, dI)) (ci := 1) (v := .ref (a 6)) (C := RX1) (T := TX1) (N := 7) hx hb hts hin_1 hown hK hP 0 rfl rfl 4 (by decide) hf_25 (fun _ h9 => h9) rfl dX1_load_53 ?_
          refine lv_iload_n hx hb dX1_load_56 rfl (lv_at hl 2 rfl) ?_
          refine lv_dload_n hx hb dX1_load_57 rfl (lv_at hl 0 rfl) ?_
          refine lv_aload_n hx hb dX1_load_58 rfl (lv_at hl 3 rfl) ?_
          refine va_get (D := (dC, dI)) (ci := 1) (v := .ref (a 7)) (C := RX1) (T := TX1) (N := 7) hx hb hts hin_1 hown hK hP 0 rfl rfl 5 (by decide) hf_29 (fun _ h9 => h9) rfl dX1_load_59 ?_
          refine lv_iload_n hx hb dX1_load_62 rfl (lv_at hl 2 rfl) ?_
          refine zq_dald hx hb hK hP 6 2 rfl rfl (j := i) (by omega) (by decide) dX1_load_63 ?_
          refine lv_dcmp hx hb dX1_load_64 ?_
          refine lv_if_ge (tgt := 72) hx hb dX1_load_65 (by decide) (fun c_10 => ?_) (fun c_10 => ?_)
          · refine lv_aload_n hx hb dX1_load_72 rfl (lv_at hl 3 rfl) ?_
            refine va_get (D := (dC, dI)) (ci := 1) (v := .ref (a 7)) (C := RX1) (T := TX1) (N := 7) hx hb hts hin_1 hown hK hP 0 rfl rfl 5 (by decide) hf_29 (fun _ h9 => h9) rfl dX1_load_73 ?_
            refine lv_iload_n hx hb dX1_load_76 rfl (lv_at hl 2 rfl) ?_
            refine zq_dald hx hb hK hP 6 2 rfl rfl (j := i) (by omega) (by decide) dX1_load_77 ?_
            refine zq_dast hx hb hK hP hD hS 5 2 rfl rfl (j := i) (by omega) (by decide) (wLa a cI cZ cD ki pl tu le (vf_upd ((la_lo pl ch ca i).1) i (ca i)) ca (nI N)) rfl dX1_load_78 (fun H locs hP hD hS => ?_)
            refine lv_iinc (v := nI (5 - ((la_lo pl ch ca i).2 + 1))) (lv' := [(1, .int (nI (5 - ((la_lo pl ch ca i).2 + 1)))), (3, .double (FP.dadd (((la_lo pl ch ca i).1) i) 4612811918334230528)), (2, .int (nI i)), (0, .ref (a 1))]) hx hb dX1_load_79 hl (k := 1) rfl (zq_dec5 hu) (by decide) rfl (fun ls hl => ?_)
            refine lv_iinc (v := nI (i + 1)) (lv' := [(2, .int (nI (i + 1))), (1, .int (nI (5 - ((la_lo pl ch ca i).2 + 1)))), (3, .double (FP.dadd (((la_lo pl ch ca i).1) i) 4612811918334230528)), (0, .ref (a 1))]) hx hb dX1_load_82 hl (k := 2) rfl (nI_add _ 1) (by decide) rfl (fun ls hl => ?_)
            refine lv_goto (tgt := 4) hx hb dX1_load_85 (by decide) ?_
            have e_11 : ((la_lo pl ch ca (i + 1)).1) = (vf_upd ((la_lo pl ch ca i).1) i (ca i)) := by rw [la_lo_t (by simp [la_ldo, la_lt, hu, d_0, c_2, c_4, c_7, c_10])]; try simp [la_l1, la_lt, d_0, c_2, c_4, c_7, c_10]
            have e_12 : (nI (5 - (la_lo pl ch ca (i + 1)).2)) = (nI (5 - ((la_lo pl ch ca i).2 + 1))) := by rw [la_lo_t (by simp [la_ldo, la_lt, hu, d_0, c_2, c_4, c_7, c_10])]; try simp [la_l1, la_lt, d_0, c_2, c_4, c_7, c_10]
            exact ih_i _ _ _ (by omega) ⟨(by (try rw [e_11]); (try rw [e_12]); exact hP), (by (try rw [e_11]); (try rw [e_12]); exact hD), hS, (by (try rw [e_11]); (try rw [e_12]); exact lv_sub hl [1, 0, 3] rfl)⟩
          · refine lv_dload_n hx hb dX1_load_68 rfl (lv_at hl 0 rfl) ?_
            refine lv_goto (tgt := 78) hx hb dX1_load_69 (by decide) ?_
            refine zq_dast hx hb hK hP hD hS 5 2 rfl rfl (j := i) (by omega) (by decide) (wLa a cI cZ cD ki pl tu le (vf_upd ((la_lo pl ch ca i).1) i (FP.dadd (((la_lo pl ch ca i).1) i) 4612811918334230528)) ca (nI N)) rfl dX1_load_78 (fun H locs hP hD hS => ?_)
            refine lv_iinc (v := nI (5 - ((la_lo pl ch ca i).2 + 1))) (lv' := [(1, .int (nI (5 - ((la_lo pl ch ca i).2 + 1)))), (3, .double (FP.dadd (((la_lo pl ch ca i).1) i) 4612811918334230528)), (2, .int (nI i)), (0, .ref (a 1))]) hx hb dX1_load_79 hl (k := 1) rfl (zq_dec5 hu) (by decide) rfl (fun ls hl => ?_)
            refine lv_iinc (v := nI (i + 1)) (lv' := [(2, .int (nI (i + 1))), (1, .int (nI (5 - ((la_lo pl ch ca i).2 + 1)))), (3, .double (FP.dadd (((la_lo pl ch ca i).1) i) 4612811918334230528)), (0, .ref (a 1))]) hx hb dX1_load_82 hl (k := 2) rfl (nI_add _ 1) (by decide) rfl (fun ls hl => ?_)
            refine lv_goto (tgt := 4) hx hb dX1_load_85 (by decide) ?_
            have e_13 : ((la_lo pl ch ca (i + 1)).1) = (vf_upd ((la_lo pl ch ca i).1) i (FP.dadd (((la_lo pl ch ca i).1) i) 4612811918334230528)) := by rw [la_lo_t (by simp [la_ldo, la_lt, hu, d_0, c_2, c_4, c_7, c_10])]; try simp [la_l1, la_lt, d_0, c_2, c_4, c_7, c_10]
            have e_14 : (nI (5 - (la_lo pl ch ca (i + 1)).2)) = (nI (5 - ((la_lo pl ch ca i).2 + 1))) := by rw [la_lo_t (by simp [la_ldo, la_lt, hu, d_0, c_2, c_4, c_7, c_10])]; try simp [la_l1, la_lt, d_0, c_2, c_4, c_7, c_10]
            exact ih_i _ _ _ (by omega) ⟨(by (try rw [e_13]); (try rw [e_14]); exact hP), (by (try rw [e_13]); (try rw [e_14]); exact hD), hS, (by (try rw [e_13]); (try rw [e_14]); exact lv_sub hl [1, 0, 3] rfl)⟩
