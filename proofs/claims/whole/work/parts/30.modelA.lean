set_option maxHeartbeats 4000000 in
set_option maxRecDepth 100000 in
theorem c_X4_in (l : Launch) (v lo hi : Int32) : zq_Si l yX4_in wsX4_in ({ frames := 0, cells := 0, slots := 0, locals := 0 } : Room) [.int v, .int lo, .int hi] (zb (in_b v lo hi)) := by
  refine Met.ofW (cc := cX4_in) (maxL := 3) (ret := (some .boolean)) (by decide) rfl ?_
  intro p e s m args below meth c s₁ B hml hv
  obtain ⟨rfl, -⟩ := hv
  have hx := B.exec
  have hb := B.bytes
  have hr := B.returns
  have hts := atoms_spec (ws := wsX4_in) B.pre
  have hown : s.vm.findClass RX4 = some m.cls := findClass_of_methodNamed B.named
  have hlocks := B.notSynchronized
  have hS : va_S (fun _ => False) s.heap s.heap [] := va_S.rf
  have hl := lv_entry ([.int v, .int lo, .int hi]) (n := 3) (Nat.le_of_ble_eq_true rfl)
  rw [lg_entry_eq]
  generalize (lg_sl ([.int v, .int lo, .int hi]) ++ List.replicate (3 - (lg_sl ([.int v, .int lo, .int hi])).length) Slot.unset).toArray = ls at hl ⊢
  have hl : lv_has ls 3 [(0, .int v), (1, .int lo), (2, .int hi)] := hl
  refine lv_iload_n hx hb dX4_in_0 rfl (lv_at hl 0 rfl) ?_
  refine lv_iload_n hx hb dX4_in_1 rfl (lv_at hl 1 rfl) ?_
  refine lv_icmp_lt (tgt := 14) hx hb dX4_in_2 (by decide) (fun c_0 => ?_) (fun c_0 => ?_)
  · refine lv_iconst (v := 0) hx hb dX4_in_14 (by decide) ?_
    exact W.zret (v := 0) hx hb hr (by rfl) (fun t ht hW => ⟨⟨_, (), rfl, (by first | with_reducible rfl | simp [zb, in_b, c_0]), trivial⟩, hS.F ht⟩) (fun q hq => (hS.2.2 q hq).elim) dX4_in_15
  · refine lv_iload_n hx hb dX4_in_5 rfl (lv_at hl 0 rfl) ?_
    refine lv_iload_n hx hb dX4_in_6 rfl (lv_at hl 2 rfl) ?_
    refine lv_icmp_gt (tgt := 14) hx hb dX4_in_7 (by decide) (fun c_1 => ?_) (fun c_1 => ?_)
    · refine lv_iconst (v := 0) hx hb dX4_in_14 (by decide) ?_
      exact W.zret (v := 0) hx hb hr (by rfl) (fun t ht hW => ⟨⟨_, (), rfl, (by first | with_reducible rfl | simp [zb, in_b, c_0, c_1]), trivial⟩, hS.F ht⟩) (fun q hq => (hS.2.2 q hq).elim) dX4_in_15
    · refine lv_iconst (v := 1) hx hb dX4_in_10 (by decide) ?_
      refine lv_goto (tgt := 15) hx hb dX4_in_11 (by decide) ?_
      exact W.zret (v := 1) hx hb hr (by rfl) (fun t ht hW => ⟨⟨_, (), rfl, (by first | with_reducible rfl | simp [zb, in_b, c_0, c_1]), trivial⟩, hS.F ht⟩) (fun q hq => (hS.2.2 q hq).elim) dX4_in_15

set_option maxHeartbeats 4000000 in
set_option maxRecDepth 100000 in
theorem c_X4_full (l : Launch) (k : Int32) : zq_Sd l yX4_full wsX4_full ({ frames := 0, cells := 0, slots := 0, locals := 0 } : Room) [.int k] (la_new k) := by
  refine Met.ofW (cc := cX4_full) (maxL := 1) (ret := (some .double)) (by decide) rfl ?_
  intro p e s m args below meth c s₁ B hml hv
  obtain ⟨rfl, -⟩ := hv
  have hx := B.exec
  have hb := B.bytes
  have hr := B.returns
  have hts := atoms_spec (ws := wsX4_full) B.pre
  have hown : s.vm.findClass RX4 = some m.cls := findClass_of_methodNamed B.named
  have hlocks := B.notSynchronized
  have hS : va_S (fun _ => False) s.heap s.heap [] := va_S.rf
  have hl := lv_entry ([.int k]) (n := 1) (Nat.le_of_ble_eq_true rfl)
  rw [lg_entry_eq]
  generalize (lg_sl ([.int k]) ++ List.replicate (1 - (lg_sl ([.int k])).length) Slot.unset).toArray = ls at hl ⊢
  have hl : lv_has ls 1 [(0, .int k)] := hl
  have hc_63 := hts (.constantDouble RX4 63 (4626322717216342016)) (by decide +kernel)
  have hc_61 := hts (.constantDouble RX4 61 (4625196817309499392)) (by decide +kernel)
  have hc_59 := hts (.constantDouble RX4 59 (4622945017495814144)) (by decide +kernel)
  refine lv_iload_n hx hb dX4_full_0 rfl (lv_at hl 0 rfl) ?_
  refine lv_if_ne (tgt := 10) hx hb dX4_full_1 (by decide) (fun c_0 => ?_) (fun c_0 => ?_)
  · refine lv_iload_n hx hb dX4_full_10 rfl (lv_at hl 0 rfl) ?_
    refine lv_iconst (v := 1) hx hb dX4_full_11 (by decide) ?_
    refine lv_icmp_ne (tgt := 21) hx hb dX4_full_12 (by decide) (fun c_1 => ?_) (fun c_1 => ?_)
    · refine lv_ldc2d hx hb hown hc_63 dX4_full_21 ?_
      exact W.dret (v := 4626322717216342016) hx hb hr (fun t ht hW => ⟨⟨_, (), rfl, (by first | with_reducible rfl | simp [la_new, c_0, c_1]), trivial⟩, hS.F ht⟩) (fun q hq => (hS.2.2 q hq).elim) dX4_full_24
    · refine lv_ldc2d hx hb hown hc_61 dX4_full_15 ?_
      refine lv_goto (tgt := 24) hx hb dX4_full_18 (by decide) ?_
      exact W.dret (v := 4625196817309499392) hx hb hr (fun t ht hW => ⟨⟨_, (), rfl, (by first | with_reducible rfl | simp [la_new, c_0, c_1]), trivial⟩, hS.F ht⟩) (fun q hq => (hS.2.2 q hq).elim) dX4_full_24
  · refine lv_ldc2d hx hb hown hc_59 dX4_full_4 ?_
    refine lv_goto (tgt := 24) hx hb dX4_full_7 (by decide) ?_
    exact W.dret (v := 4622945017495814144) hx hb hr (fun t ht hW => ⟨⟨_, (), rfl, (by first | with_reducible rfl | simp [la_new, c_0]), trivial⟩, hS.F ht⟩) (fun q hq => (hS.2.2 q hq).elim) dX4_full_24

set_option maxHeartbeats 4000000 in
set_option maxRecDepth 100000 in
theorem c_X4_thrown (l : Launch) (dC : Nat → ClassId) (dI : Nat → Nat → Nat) (b : Nat → Nat) (cI cZ cD : ClassId) (mt mh : Int32) (ki pl tu le : Nat → Int32) (ch ca : Nat → UInt64) (N M mb ma : Nat) (wa la si bo al : Nat → Int32) (hN : N ≤ 40) (hM : M ≤ 30) (hmb : mb ≤ 30) (hma : ma ≤ 60) (sz : Nat) : zq_Mi l yX4_thrown wsX4_thrown ({ frames := 0, cells := 0, slots := 0, locals := 0 } : Room) (dC, dI) (zq_T cI cZ cD) [.ref (b 0)] (wMo b cI cZ cD mt mh (nI N) ki pl tu le ch ca (nI M) wa la si (nI mb) bo (nI ma) al) mt (wMo b cI cZ cD mt mh (nI N) ki pl tu le ch ca (nI M) wa la si (nI mb) bo (nI ma) al) sz := by
  refine Met.ofW (cc := cX4_thrown) (maxL := 1) (ret := (some .int)) (by decide) rfl ?_
  intro p e s m args below meth c s₁ B hml hv
  obtain ⟨rfl, hsz, hP, hK, hD0⟩ := hv
  have hx := B.exec
  have hb := B.bytes
  have hr := B.returns
  have hts := atoms_spec (ws := wsX4_thrown) B.pre
  have hown : s.vm.findClass RX4 = some m.cls := findClass_of_methodNamed B.named
  have hlocks := B.notSynchronized
  subst hsz
  have hD := hD0.self (sz := s.heap.size)
  generalize hAe : va_A (wMo b cI cZ cD mt mh (nI N) ki pl tu le ch ca (nI M) wa la si (nI mb) bo (nI ma) al) s.heap.size = A at hD ⊢
  have hA : ∀ q : Nat, s.heap.size ≤ q → A q := fun q h => by rw [← hAe]; exact Or.inr h
  have hS : va_S A s.heap s.heap [] := va_S.rf
  have hP : va_P (dC, dI) vwCl (wMo b cI cZ cD mt mh (nI N) ki pl tu le ch ca (nI M) wa la si (nI mb) bo (nI ma) al) s.heap := hP
  have hl := lv_entry ([.ref (b 0)]) (n := 1) (Nat.le_of_ble_eq_true rfl)
  rw [lg_entry_eq]
  generalize (lg_sl ([.ref (b 0)]) ++ List.replicate (1 - (lg_sl ([.ref (b 0)])).length) Slot.unset).toArray = ls at hl ⊢
  have hl : lv_has ls 1 [(0, .ref (b 0))] := hl
  have hf_45 := hts (.fieldLink RX4 45 "LampRoomModel" "thrown" "I") (by decide +kernel)
  have hin_4 : ∀ w ∈ wsX40, w ∈ wsX4_thrown := by decide +kernel
  refine lv_aload_n hx hb dX4_thrown_0 rfl (lv_at hl 0 rfl) ?_
  refine va_get (D := (dC, dI)) (ci := 4) (v := .int mt) (C := RX4) (T := TX4) (N := 17) hx hb hts hin_4 hown hK hP 0 rfl rfl 0 (by decide) hf_45 (fun _ h9 => h9) rfl dX4_thrown_1 ?_
  exact W.iret (v := mt) hx hb hr (zq_qi rfl hP hK hD hS) hS.2.2 dX4_thrown_4

set_option maxHeartbeats 4000000 in
set_option maxRecDepth 100000 in
theorem c_X4_isLamp (l : Launch) (dC : Nat → ClassId) (dI : Nat → Nat → Nat) (b : Nat → Nat) (cI cZ cD : ClassId) (mt mh : Int32) (ki pl tu le : Nat → Int32) (ch ca : Nat → UInt64) (N M mb ma : Nat) (wa la si bo al : Nat → Int32) (hN : N ≤ 40) (hM : M ≤ 30) (hmb : mb ≤ 30) (hma : ma ≤ 60) (x : Int32) (sz : Nat) : zq_Mi l yX4_isLamp wsX4_isLamp ({ frames := 1, cells := 0, slots := 0, locals := 22 } : Room) (dC, dI) (zq_T cI cZ cD) [.ref (b 0), .int x] (wMo b cI cZ cD mt mh (nI N) ki pl tu le ch ca (nI M) wa la si (nI mb) bo (nI ma) al) (zb (in_b x 0 (nI N - 1))) (wMo b cI cZ cD mt mh (nI N) ki pl tu le ch ca (nI M) wa la si (nI mb) bo (nI ma) al) sz := by
  refine Met.ofW (cc := cX4_isLamp) (maxL := 2) (ret := (some .boolean)) (by decide) rfl ?_
  intro p e s m args below meth c s₁ B hml hv
  obtain ⟨rfl, hsz, hP, hK, hD0⟩ := hv
  have hx := B.exec
  have hb := B.bytes
  have hr := B.returns
  have hts := atoms_spec (ws := wsX4_isLamp) B.pre
  have hown : s.vm.findClass RX4 = some m.cls := findClass_of_methodNamed B.named
  have hlocks := B.notSynchronized
  subst hsz
  have hD := hD0.self (sz := s.heap.size)
  generalize hAe : va_A (wMo b cI cZ cD mt mh (nI N) ki pl tu le ch ca (nI M) wa la si (nI mb) bo (nI ma) al) s.heap.size = A at hD ⊢
  have hA : ∀ q : Nat, s.heap.size ≤ q → A q := fun q h => by rw [← hAe]; exact Or.inr h
  have hS : va_S A s.heap s.heap [] := va_S.rf
  have hP : va_P (dC, dI) vwCl (wMo b cI cZ cD mt mh (nI N) ki pl tu le ch ca (nI M) wa la si (nI mb) bo (nI ma) al) s.heap := hP
  have hl := lv_entry ([.ref (b 0), .int x]) (n := 2) (Nat.le_of_ble_eq_true rfl)
  rw [lg_entry_eq]
  generalize (lg_sl ([.ref (b 0), .int x]) ++ List.replicate (2 - (lg_sl ([.ref (b 0), .int x])).length) Slot.unset).toArray = ls at hl ⊢
  have hl : lv_has ls 2 [(0, .ref (b 0)), (1, .int x)] := hl
  have hf_49 := hts (.fieldLink RX4 49 "LampRoomModel" "lamps" "I") (by decide +kernel)
  have hin_4 : ∀ w ∈ wsX40, w ∈ wsX4_isLamp := by decide +kernel
  refine lv_iload_n hx hb dX4_isLamp_0 rfl (lv_at hl 1 rfl) ?_
  refine lv_iconst (v := 0) hx hb dX4_isLamp_1 (by decide) ?_
  refine lv_aload_n hx hb dX4_isLamp_2 rfl (lv_at hl 0 rfl) ?_
  refine va_get (D := (dC, dI)) (ci := 4) (v := .int (nI N)) (C := RX4) (T := TX4) (N := 17) hx hb hts hin_4 hown hK hP 0 rfl rfl 2 (by decide) hf_49 (fun _ h9 => h9) rfl dX4_isLamp_3 ?_
  refine lv_iconst (v := 1) hx hb dX4_isLamp_6 (by decide) ?_
  refine t_isub hx hb dX4_isLamp_7 (v := (nI N) - 1) (rfl) ?_
  refine zq_cSi (As := [.int x, .int 0, .int ((nI N) - 1)]) (rest := []) ⟨hx, hb, hml, hown, hts⟩ (c_X4_in l x 0 ((nI N) - 1)) (va_cwS 3 hts gX4_isLamp_X4_in rfl rfl rfl (by decide +kernel) ⟨Nat.le_of_ble_eq_true rfl, Nat.le_of_ble_eq_true rfl⟩) hP hS rfl hl.1 rfl (Nat.le_of_ble_eq_true rfl) dX4_isLamp_8 ⟨Nat.zero_le _, Nat.zero_le _⟩ (fun H locs hP hS => ?_)
  exact W.zret (v := zb (in_b x 0 ((nI N) - 1))) hx hb hr (by exact zb_nar _) (zq_qi (by first | with_reducible rfl | simp []) hP hK hD hS) hS.2.2 dX4_isLamp_11

set_option maxHeartbeats 4000000 in
set_option maxRecDepth 100000 in
theorem c_X4_isMiner (l : Launch) (dC : Nat → ClassId) (dI : Nat → Nat → Nat) (b : Nat → Nat) (cI cZ cD : ClassId) (mt mh : Int32) (ki pl tu le : Nat → Int32) (ch ca : Nat → UInt64) (N M mb ma : Nat) (wa la si bo al : Nat → Int32) (hN : N ≤ 40) (hM : M ≤ 30) (hmb : mb ≤ 30) (hma : ma ≤ 60) (x : Int32) (sz : Nat) : zq_Mi l yX4_isMiner wsX4_isMiner ({ frames := 1, cells := 0, slots := 0, locals := 22 } : Room) (dC, dI) (zq_T cI cZ cD) [.ref (b 0), .int x] (wMo b cI cZ cD mt mh (nI N) ki pl tu le ch ca (nI M) wa la si (nI mb) bo (nI ma) al) (zb (in_b x 0 (nI M - 1))) (wMo b cI cZ cD mt mh (nI N) ki pl tu le ch ca (nI M) wa la si (nI mb) bo (nI ma) al) sz := by
  refine Met.ofW (cc := cX4_isMiner) (maxL := 2) (ret := (some .boolean)) (by decide) rfl ?_
  intro p e s m args below meth c s₁ B hml hv
  obtain ⟨rfl, hsz, hP, hK, hD0⟩ := hv
  have hx := B.exec
  have hb := B.bytes
  have hr := B.returns
  have hts := atoms_spec (ws := wsX4_isMiner) B.pre
  have hown : s.vm.findClass RX4 = some m.cls := findClass_of_methodNamed B.named
  have hlocks := B.notSynchronized
  subst hsz
  have hD := hD0.self (sz := s.heap.size)
  generalize hAe : va_A (wMo b cI cZ cD mt mh (nI N) ki pl tu le ch ca (nI M) wa la si (nI mb) bo (nI ma) al) s.heap.size = A at hD ⊢
  have hA : ∀ q : Nat, s.heap.size ≤ q → A q := fun q h => by rw [← hAe]; exact Or.inr h
  have hS : va_S A s.heap s.heap [] := va_S.rf
  have hP : va_P (dC, dI) vwCl (wMo b cI cZ cD mt mh (nI N) ki pl tu le ch ca (nI M) wa la si (nI mb) bo (nI ma) al) s.heap := hP
  have hl := lv_entry ([.ref (b 0), .int x]) (n := 2) (Nat.le_of_ble_eq_true rfl)
  rw [lg_entry_eq]
  generalize (lg_sl ([.ref (b 0), .int x]) ++ List.replicate (2 - (lg_sl ([.ref (b 0), .int x])).length) Slot.unset).toArray = ls at hl ⊢
  have hl : lv_has ls 2 [(0, .ref (b 0)), (1, .int x)] := hl
  have hf_56 := hts (.fieldLink RX4 56 "LampRoomModel" "miners" "I") (by decide +kernel)
  have hin_4 : ∀ w ∈ wsX40, w ∈ wsX4_isMiner := by decide +kernel
  refine lv_iload_n hx hb dX4_isMiner_0 rfl (lv_at hl 1 rfl) ?_
  refine lv_iconst (v := 0) hx hb dX4_isMiner_1 (by decide) ?_
  refine lv_aload_n hx hb dX4_isMiner_2 rfl (lv_at hl 0 rfl) ?_
  refine va_get (D := (dC, dI)) (ci := 4) (v := .int (nI M)) (C := RX4) (T := TX4) (N := 17) hx hb hts hin_4 hown hK hP 0 rfl rfl 9 (by decide) hf_56 (fun _ h9 => h9) rfl dX4_isMiner_3 ?_
  refine lv_iconst (v := 1) hx hb dX4_isMiner_6 (by decide) ?_
  refine t_isub hx hb dX4_isMiner_7 (v := (nI M) - 1) (rfl) ?_
  refine zq_cSi (As := [.int x, .int 0, .int ((nI M) - 1)]) (rest := []) ⟨hx, hb, hml, hown, hts⟩ (c_X4_in l x 0 ((nI M) - 1)) (va_cwS 3 hts gX4_isMiner_X4_in rfl rfl rfl (by decide +kernel) ⟨Nat.le_of_ble_eq_true rfl, Nat.le_of_ble_eq_true rfl⟩) hP hS rfl hl.1 rfl (Nat.le_of_ble_eq_true rfl) dX4_isMiner_8 ⟨Nat.zero_le _, Nat.zero_le _⟩ (fun H locs hP hS => ?_)
  exact W.zret (v := zb (in_b x 0 ((nI M) - 1))) hx hb hr (by exact zb_nar _) (zq_qi (by first | with_reducible rfl | simp []) hP hK hD hS) hS.2.2 dX4_isMiner_11

set_option maxHeartbeats 4000000 in
set_option maxRecDepth 100000 in
theorem c_X4_isReady (l : Launch) (dC : Nat → ClassId) (dI : Nat → Nat → Nat) (b : Nat → Nat) (cI cZ cD : ClassId) (mt mh : Int32) (ki pl tu le : Nat → Int32) (ch ca : Nat → UInt64) (N M mb ma : Nat) (wa la si bo al : Nat → Int32) (hN : N ≤ 40) (hM : M ≤ 30) (hmb : mb ≤ 30) (hma : ma ≤ 60) (j : Nat) (hj : j < 40) (sz : Nat) : zq_Mi l yX4_isReady wsX4_isReady ({ frames := 0, cells := 0, slots := 0, locals := 0 } : Room) (dC, dI) (zq_T cI cZ cD) [.ref (b 0), .int (nI j)] (wMo b cI cZ cD mt mh (nI N) ki pl tu le ch ca (nI M) wa la si (nI mb) bo (nI ma) al) (zb (la_rd pl ch j)) (wMo b cI cZ cD mt mh (nI N) ki pl tu le ch ca (nI M) wa la si (nI mb) bo (nI ma) al) sz := by
  refine Met.ofW (cc := cX4_isReady) (maxL := 2) (ret := (some .boolean)) (by decide) rfl ?_
  intro p e s m args below meth c s₁ B hml hv
  obtain ⟨rfl, hsz, hP, hK, hD0⟩ := hv
  have hx := B.exec
  have hb := B.bytes
  have hr := B.returns
  have hts := atoms_spec (ws := wsX4_isReady) B.pre
  have hown : s.vm.findClass RX4 = some m.cls := findClass_of_methodNamed B.named
  have hlocks := B.notSynchronized
  subst hsz
  have hD := hD0.self (sz := s.heap.size)
  generalize hAe : va_A (wMo b cI cZ cD mt mh (nI N) ki pl tu le ch ca (nI M) wa la si (nI mb) bo (nI ma) al) s.heap.size = A at hD ⊢
  have hA : ∀ q : Nat, s.heap.size ≤ q → A q := fun q h => by rw [← hAe]; exact Or.inr h
  have hS : va_S A s.heap s.heap [] := va_S.rf
  have hP : va_P (dC, dI) vwCl (wMo b cI cZ cD mt mh (nI N) ki pl tu le ch ca (nI M) wa la si (nI mb) bo (nI ma) al) s.heap := hP
  have hl := lv_entry ([.ref (b 0), .int (nI j)]) (n := 2) (Nat.le_of_ble_eq_true rfl)
  rw [lg_entry_eq]
  generalize (lg_sl ([.ref (b 0), .int (nI j)]) ++ List.replicate (2 - (lg_sl ([.ref (b 0), .int (nI j)])).length) Slot.unset).toArray = ls at hl ⊢
  have hl : lv_has ls 2 [(0, .ref (b 0)), (1, .int (nI j))] := hl
  have hf_13 := hts (.fieldLink RX4 13 "LampRoomModel" "place" "[I") (by decide +kernel)
  have hin_4 : ∀ w ∈ wsX40, w ∈ wsX4_isReady := by decide +kernel
  have hf_23 := hts (.fieldLink RX4 23 "LampRoomModel" "charge" "[D") (by decide +kernel)
  have hc_69 := hts (.constantDouble RX4 69 (4621256167635550208)) (by decide +kernel)
  refine lv_aload_n hx hb dX4_isReady_0 rfl (lv_at hl 0 rfl) ?_
  refine va_get (D := (dC, dI)) (ci := 4) (v := .ref (b 2)) (C := RX4) (T := TX4) (N := 17) hx hb hts hin_4 hown hK hP 0 rfl rfl 4 (by decide) hf_13 (fun _ h9 => h9) rfl dX4_isReady_1 ?_
  refine lv_iload_n hx hb dX4_isReady_4 rfl (lv_at hl 1 rfl) ?_
  refine zq_iald hx hb hK hP 2 0 rfl rfl (j := j) (by omega) (by decide) dX4_isReady_5 ?_
  refine lv_if_ne (tgt := 26) hx hb dX4_isReady_6 (by decide) (fun c_0 => ?_) (fun c_0 => ?_)
  · refine lv_iconst (v := 0) hx hb dX4_isReady_26 (by decide) ?_
    exact W.zret (v := 0) hx hb hr (by rfl) (zq_qi (by first | with_reducible rfl | simp [zb, la_rd, la_ge9, c_0]) hP hK hD hS) hS.2.2 dX4_isReady_27
  · refine lv_aload_n hx hb dX4_isReady_9 rfl (lv_at hl 0 rfl) ?_
    refine va_get (D := (dC, dI)) (ci := 4) (v := .ref (b 5)) (C := RX4) (T := TX4) (N := 17) hx hb hts hin_4 hown hK hP 0 rfl rfl 7 (by decide) hf_23 (fun _ h9 => h9) rfl dX4_isReady_10 ?_
    refine lv_iload_n hx hb dX4_isReady_13 rfl (lv_at hl 1 rfl) ?_
    refine zq_dald hx hb hK hP 5 2 rfl rfl (j := j) (by omega) (by decide) dX4_isReady_14 ?_
    refine lv_ldc2d hx hb hown hc_69 dX4_isReady_15 ?_
    refine lv_dcmp hx hb dX4_isReady_18 ?_
    refine lv_if_lt (tgt := 26) hx hb dX4_isReady_19 (by decide) (fun c_1 => ?_) (fun c_1 => ?_)
    · refine lv_iconst (v := 0) hx hb dX4_isReady_26 (by decide) ?_
      exact W.zret (v := 0) hx hb hr (by rfl) (zq_qi (by first | with_reducible rfl | simp [zb, la_rd, la_ge9, c_0, c_1]) hP hK hD hS) hS.2.2 dX4_isReady_27
    · refine lv_iconst (v := 1) hx hb dX4_isReady_22 (by decide) ?_
      refine lv_goto (tgt := 27) hx hb dX4_isReady_23 (by decide) ?_
      exact W.zret (v := 1) hx hb hr (by rfl) (zq_qi (by first | with_reducible rfl | simp [zb, la_rd, la_ge9, c_0, c_1]) hP hK hD hS) hS.2.2 dX4_isReady_27

set_option maxHeartbeats 4000000 in
set_option maxRecDepth 100000 in
theorem c_X4_isWeak (l : Launch) (dC : Nat → ClassId) (dI : Nat → Nat → Nat) (b : Nat → Nat) (cI cZ cD : ClassId) (mt mh : Int32) (ki pl tu le : Nat → Int32) (ch ca : Nat → UInt64) (N M mb ma : Nat) (wa la si bo al : Nat → Int32) (hN : N ≤ 40) (hM : M ≤ 30) (hmb : mb ≤ 30) (hma : ma ≤ 60) (j : Nat) (hj : j < 40) (sz : Nat) : zq_Mi l yX4_isWeak wsX4_isWeak ({ frames := 1, cells := 0, slots := 0, locals := 20 } : Room) (dC, dI) (zq_T cI cZ cD) [.ref (b 0), .int (nI j)] (wMo b cI cZ cD mt mh (nI N) ki pl tu le ch ca (nI M) wa la si (nI mb) bo (nI ma) al) (zb (la_weak ki ca j)) (wMo b cI cZ cD mt mh (nI N) ki pl tu le ch ca (nI M) wa la si (nI mb) bo (nI ma) al) sz := by
  refine Met.ofW (cc := cX4_isWeak) (maxL := 2) (ret := (some .boolean)) (by decide) rfl ?_
  intro p e s m args below meth c s₁ B hml hv
  obtain ⟨rfl, hsz, hP, hK, hD0⟩ := hv
  have hx := B.exec
  have hb := B.bytes
  have hr := B.returns
  have hts := atoms_spec (ws := wsX4_isWeak) B.pre
  have hown : s.vm.findClass RX4 = some m.cls := findClass_of_methodNamed B.named
  have hlocks := B.notSynchronized
  subst hsz
  have hD := hD0.self (sz := s.heap.size)
  generalize hAe : va_A (wMo b cI cZ cD mt mh (nI N) ki pl tu le ch ca (nI M) wa la si (nI mb) bo (nI ma) al) s.heap.size = A at hD ⊢
  have hA : ∀ q : Nat, s.heap.size ≤ q → A q := fun q h => by rw [← hAe]; exact Or.inr h
  have hS : va_S A s.heap s.heap [] := va_S.rf
  have hP : va_P (dC, dI) vwCl (wMo b cI cZ cD mt mh (nI N) ki pl tu le ch ca (nI M) wa la si (nI mb) bo (nI ma) al) s.heap := hP
  have hl := lv_entry ([.ref (b 0), .int (nI j)]) (n := 2) (Nat.le_of_ble_eq_true rfl)
  rw [lg_entry_eq]
  generalize (lg_sl ([.ref (b 0), .int (nI j)]) ++ List.replicate (2 - (lg_sl ([.ref (b 0), .int (nI j)])).length) Slot.unset).toArray = ls at hl ⊢
  have hl : lv_has ls 2 [(0, .ref (b 0)), (1, .int (nI j))] := hl
  have hf_27 := hts (.fieldLink RX4 27 "LampRoomModel" "capacity" "[D") (by decide +kernel)
  have hin_4 : ∀ w ∈ wsX40, w ∈ wsX4_isWeak := by decide +kernel
  have hc_97 := hts (.constantDouble RX4 97 (4604930618986332160)) (by decide +kernel)
  have hf_7 := hts (.fieldLink RX4 7 "LampRoomModel" "kindOf" "[I") (by decide +kernel)
  refine lv_aload_n hx hb dX4_isWeak_0 rfl (lv_at hl 0 rfl) ?_
  refine va_get (D := (dC, dI)) (ci := 4) (v := .ref (b 6)) (C := RX4) (T := TX4) (N := 17) hx hb hts hin_4 hown hK hP 0 rfl rfl 8 (by decide) hf_27 (fun _ h9 => h9) rfl dX4_isWeak_1 ?_
  refine lv_iload_n hx hb dX4_isWeak_4 rfl (lv_at hl 1 rfl) ?_
  refine zq_dald hx hb hK hP 6 2 rfl rfl (j := j) (by omega) (by decide) dX4_isWeak_5 ?_
  refine lv_ldc2d hx hb hown hc_97 dX4_isWeak_6 ?_
  refine lv_aload_n hx hb dX4_isWeak_9 rfl (lv_at hl 0 rfl) ?_
  refine va_get (D := (dC, dI)) (ci := 4) (v := .ref (b 1)) (C := RX4) (T := TX4) (N := 17) hx hb hts hin_4 hown hK hP 0 rfl rfl 3 (by decide) hf_7 (fun _ h9 => h9) rfl dX4_isWeak_10 ?_
  refine lv_iload_n hx hb dX4_isWeak_13 rfl (lv_at hl 1 rfl) ?_
  refine zq_iald hx hb hK hP 1 0 rfl rfl (j := j) (by omega) (by decide) dX4_isWeak_14 ?_
  refine zq_cSd (As := [.int (ki j)]) (rest := [.double 4604930618986332160, .double (ca j)]) ⟨hx, hb, hml, hown, hts⟩ (c_X4_full l (ki j)) (va_cwS 1 hts gX4_isWeak_X4_full rfl rfl rfl (by decide +kernel) ⟨Nat.le_of_ble_eq_true rfl, Nat.le_of_ble_eq_true rfl⟩) hP hS rfl hl.1 rfl (Nat.le_of_ble_eq_true rfl) dX4_isWeak_15 ⟨Nat.zero_le _, Nat.zero_le _⟩ (fun H locs hP hS => ?_)
  refine lv_dmul hx hb dX4_isWeak_18 (zn_w75 _) ?_
  refine lv_dcmp hx hb dX4_isWeak_19 ?_
  refine lv_if_ge (tgt := 27) hx hb dX4_isWeak_20 (by decide) (fun c_0 => ?_) (fun c_0 => ?_)
  · refine lv_iconst (v := 0) hx hb dX4_isWeak_27 (by decide) ?_
    exact W.zret (v := 0) hx hb hr (by rfl) (zq_qi (by first | with_reducible rfl | simp [zb, la_weak, la_lt, c_0]) hP hK hD hS) hS.2.2 dX4_isWeak_28
  · refine lv_iconst (v := 1) hx hb dX4_isWeak_23 (by decide) ?_
    refine lv_goto (tgt := 28) hx hb dX4_isWeak_24 (by decide) ?_
    exact W.zret (v := 1) hx hb hr (by rfl) (zq_qi (by first | with_reducible rfl | simp [zb, la_weak, la_lt, c_0]) hP hK hD hS) hS.2.2 dX4_isWeak_28

set_option maxHeartbeats 4000000 in
set_option maxRecDepth 100000 in
theorem c_X4_lampFor (l : Launch) (dC : Nat → ClassId) (dI : Nat → Nat → Nat) (b : Nat → Nat) (cI cZ cD : ClassId) (mt mh : Int32) (ki pl tu le : Nat → Int32) (ch ca : Nat → UInt64) (N M mb ma : Nat) (wa la si bo al : Nat → Int32) (hN : N ≤ 40) (hM : M ≤ 30) (hmb : mb ≤ 30) (hma : ma ≤ 60) (w : Nat) (hw : w < 3) (sz : Nat) : zq_Mi l yX4_lampFor wsX4_lampFor ({ frames := 1, cells := 0, slots := 0, locals := 21 } : Room) (dC, dI) (zq_T cI cZ cD) [.ref (b 0), .int (nI w)] (wMo b cI cZ cD mt mh (nI N) ki pl tu le ch ca (nI M) wa la si (nI mb) bo (nI ma) al) (la_best ki pl ch N (3 - w) w) (wMo b cI cZ cD mt mh (nI N) ki pl tu le ch ca (nI M) wa la si (nI mb) bo (nI ma) al) sz := by
  refine Met.ofW (cc := cX4_lampFor) (maxL := 6) (ret := (some .int)) (by decide) rfl ?_
  intro p e s m args below meth c s₁ B hml hv
  obtain ⟨rfl, hsz, hP, hK, hD0⟩ := hv
  have hx := B.exec
  have hb := B.bytes
  have hr := B.returns
  have hts := atoms_spec (ws := wsX4_lampFor) B.pre
  have hown : s.vm.findClass RX4 = some m.cls := findClass_of_methodNamed B.named
  have hlocks := B.notSynchronized
  subst hsz
  have hD := hD0.self (sz := s.heap.size)
  generalize hAe : va_A (wMo b cI cZ cD mt mh (nI N) ki pl tu le ch ca (nI M) wa la si (nI mb) bo (nI ma) al) s.heap.size = A at hD ⊢
  have hA : ∀ q : Nat, s.heap.size ≤ q → A q := fun q h => by rw [← hAe]; exact Or.inr h
  have hS : va_S A s.heap s.heap [] := va_S.rf
  have hP : va_P (dC, dI) vwCl (wMo b cI cZ cD mt mh (nI N) ki pl tu le ch ca (nI M) wa la si (nI mb) bo (nI ma) al) s.heap := hP
  have hl := lv_entry ([.ref (b 0), .int (nI w)]) (n := 6) (Nat.le_of_ble_eq_true rfl)
  rw [lg_entry_eq]
  generalize (lg_sl ([.ref (b 0), .int (nI w)]) ++ List.replicate (6 - (lg_sl ([.ref (b 0), .int (nI w)])).length) Slot.unset).toArray = ls at hl ⊢
  have hl : lv_has ls 6 [(0, .ref (b 0)), (1, .int (nI w))] := hl
  have hf_49 := hts (.fieldLink RX4 49 "LampRoomModel" "lamps" "I") (by decide +kernel)
  have hin_4 : ∀ w ∈ wsX40, w ∈ wsX4_lampFor := by decide +kernel
  have hf_7 := hts (.fieldLink RX4 7 "LampRoomModel" "kindOf" "[I") (by decide +kernel)
  have hf_23 := hts (.fieldLink RX4 23 "LampRoomModel" "charge" "[D") (by decide +kernel)
  refine lv_iconst (v := (-1)) hx hb dX4_lampFor_0 (by decide) ?_
  refine lv_istore_n (lv' := [(2, .int (-1)), (0, .ref (b 0)), (1, .int (nI w))]) hx hb dX4_lampFor_1 rfl hl (by decide) rfl (fun ls hl => ?_)
  refine lv_iload_n hx hb dX4_lampFor_2 rfl (lv_at hl 2 rfl) ?_
  refine lv_istore_n (lv' := [(3, .int (nI w)), (2, .int (-1)), (0, .ref (b 0)), (1, .int (nI w))]) hx hb dX4_lampFor_3 rfl hl (by decide) rfl (fun ls hl => ?_)
  refine zq_loop 4 (3 - w) (fun t H locs ls => va_P (dC, dI) vwCl (wMo b cI cZ cD mt mh (nI N) ki pl tu le ch ca (nI M) wa la si (nI mb) bo (nI ma) al) H ∧ va_D A (wMo b cI cZ cD mt mh (nI N) ki pl tu le ch ca (nI M) wa la si (nI mb) bo (nI ma) al) ∧ va_S A s.heap H locs ∧ lv_has ls 6 [(2, .int (la_scan ki pl ch N w t)), (3, .int (nI (w + t))), (0, .ref (b 0)), (1, .int (nI w))]) ?_ 0 (by omega) _ _ _ ⟨hP, hD, hS, lv_sub hl [1, 0, 2, 3] rfl⟩
  intro t hi_t ih_t H locs ls hh
  obtain ⟨hP, hD, hS, hl⟩ := hh
  refine lv_iload_n hx hb dX4_lampFor_4 rfl (lv_at hl 1 rfl) ?_
  refine lv_iconst (v := 3) hx hb dX4_lampFor_5 (by decide) ?_
  refine lv_icmp_ge (tgt := 99) hx hb dX4_lampFor_6 (by decide) (fun c_0 => ?_) (fun c_0 => ?_)
  · have d_0 := (nI_leI (a := 3) (b := (w + t)) (by omega) (by omega)).mp c_0
    have ei_t : t = 3 - w := by omega
    refine lv_iload_n hx hb dX4_lampFor_99 rfl (lv_at hl 0 rfl) ?_
    exact W.iret (v := la_scan ki pl ch N w t) hx hb hr (zq_qi (by rw [← la_scan_0, ei_t]) hP hK hD hS) hS.2.2 dX4_lampFor_100
  · have d_0 := Nat.not_le.mp (fun h => c_0 ((nI_leI (a := 3) (b := (w + t)) (by omega) (by omega)).mpr h))
    refine lv_iload_n hx hb dX4_lampFor_9 rfl (lv_at hl 0 rfl) ?_
    refine lv_iconst (v := (-1)) hx hb dX4_lampFor_10 (by decide) ?_
    refine lv_icmp_ne (tgt := 99) hx hb dX4_lampFor_11 (by decide) (fun c_1 => ?_) (fun c_1 => ?_)
    · refine lv_iload_n hx hb dX4_lampFor_99 rfl (lv_at hl 0 rfl) ?_
      exact W.iret (v := la_scan ki pl ch N w t) hx hb hr (zq_qi (by rw [← la_scan_0, show 3 - w = t + (3 - w - t) by omega, la_scan_stop c_1]) hP hK hD hS) hS.2.2 dX4_lampFor_100
    · have hl : lv_has ls 6 [(2, .int (-1)), (3, .int (nI (w + t))), (0, .ref (b 0)), (1, .int (nI w))] := by rw [c_1] at hl; exact hl
      refine lv_iconst (v := 0) hx hb dX4_lampFor_14 (by decide) ?_
      refine lv_istore (lv' := [(4, .int 0), (2, .int (-1)), (3, .int (nI (w + t))), (0, .ref (b 0)), (1, .int (nI w))]) hx hb dX4_lampFor_15 hl (by decide) rfl (fun ls hl => ?_)
      refine zq_loop 17 N (fun i H locs ls => va_P (dC, dI) vwCl (wMo b cI cZ cD mt mh (nI N) ki pl tu le ch ca (nI M) wa la si (nI mb) bo (nI ma) al) H ∧ va_D A (wMo b cI cZ cD mt mh (nI N) ki pl tu le ch ca (nI M) wa la si (nI mb) bo (nI ma) al) ∧ va_S A s.heap H locs ∧ lv_has ls 6 [(2, .int (la_full ki pl ch (nI (w + t)) i)), (3, .int (nI (w + t))), (4, .int (nI i)), (0, .ref (b 0)), (1, .int (nI w))]) ?_ 0 (by omega) _ _ _ ⟨hP, hD, hS, lv_sub hl [1, 2, 0, 3, 4] rfl⟩
      intro i hi_i ih_i H locs ls hh
      obtain ⟨hP, hD, hS, hl⟩ := hh
      refine lv_iload hx hb dX4_lampFor_17 (lv_at hl 2 rfl) ?_
      refine lv_aload_n hx hb dX4_lampFor_19 rfl (lv_at hl 3 rfl) ?_
      refine va_get (D := (dC, dI)) (ci := 4) (v := .int (nI N)) (C := RX4) (T := TX4) (N := 17) hx hb hts hin_4 hown hK hP 0 rfl rfl 2 (by decide) hf_49 (fun _ h9 => h9) rfl dX4_lampFor_20 ?_
      refine lv_icmp_ge (tgt := 93) hx hb dX4_lampFor_23 (by decide) (fun c_2 => ?_) (fun c_2 => ?_)
      · have d_2 := (nI_leI (a := N) (b := i) (by omega) (by omega)).mp c_2
        have ei_i : i = N := by omega
        refine lv_iinc (v := nI ((w + t) + 1)) (lv' := [(3, .int (nI ((w + t) + 1))), (2, .int (la_full ki pl ch (nI (w + t)) i)), (4, .int (nI i)), (0, .ref (b 0)), (1, .int (nI w))]) hx hb dX4_lampFor_93 hl (k := 1) rfl (nI_add _ 1) (by decide) rfl (fun ls hl => ?_)
        refine lv_goto (tgt := 4) hx hb dX4_lampFor_96 (by decide) ?_
        have e_3 : (la_scan ki pl ch N w (t + 1)) = (la_full ki pl ch (nI (w + t)) i) := by rw [la_scan, if_pos c_1, ei_i]
        have e_4 : (nI (w + (t + 1))) = (nI ((w + t) + 1)) := by rfl
        exact ih_t _ _ _ (by omega) ⟨(by (try rw [e_3]); (try rw [e_4]); exact hP), (by (try rw [e_3]); (try rw [e_4]); exact hD), hS, (by (try rw [e_3]); (try rw [e_4]); exact lv_sub hl [1, 0, 3, 4] rfl)⟩
      · have d_2 := Nat.not_le.mp (fun h => c_2 ((nI_leI (a := N) (b := i) (by omega) (by omega)).mpr h))
        refine lv_aload_n hx hb dX4_lampFor_26 rfl (lv_at hl 3 rfl) ?_
        refine va_get (D := (dC, dI)) (ci := 4) (v := .ref (b 1)) (C := RX4) (T := TX4) (N := 17) hx hb hts hin_4 hown hK hP 0 rfl rfl 3 (by decide) hf_7 (fun _ h9 => h9) rfl dX4_lampFor_27 ?_
        refine lv_iload hx hb dX4_lampFor_30 (lv_at hl 2 rfl) ?_
        refine zq_iald hx hb hK hP 1 0 rfl rfl (j := i) (by omega) (by decide) dX4_lampFor_32 ?_
        refine lv_iload_n hx hb dX4_lampFor_33 rfl (lv_at hl 1 rfl) ?_
        refine lv_icmp_ne (tgt := 72) hx hb dX4_lampFor_34 (by decide) (fun c_5 => ?_) (fun c_5 => ?_)
        · refine lv_iconst (v := 0) hx hb dX4_lampFor_72 (by decide) ?_
          refine lv_istore (lv' := [(5, .int 0), (2, .int (la_full ki pl ch (nI (w + t)) i)), (3, .int (nI (w + t))), (4, .int (nI i)), (0, .ref (b 0)), (1, .int (nI w))]) hx hb dX4_lampFor_73 hl (by decide) rfl (fun ls hl => ?_)
          refine lv_iload hx hb dX4_lampFor_75 (lv_at hl 0 rfl) ?_
          refine lv_if_eq (tgt := 85) hx hb dX4_lampFor_77 (by decide) (fun _ => ?_) (fun c => absurd c (by decide))
          refine lv_iload_n hx hb dX4_lampFor_85 rfl (lv_at hl 1 rfl) ?_
          refine lv_istore_n (lv' := [(2, .int (la_full ki pl ch (nI (w + t)) i)), (5, .int 0), (3, .int (nI (w + t))), (4, .int (nI i)), (0, .ref (b 0)), (1, .int (nI w))]) hx hb dX4_lampFor_86 rfl hl (by decide) rfl (fun ls hl => ?_)
          refine lv_iinc (v := nI (i + 1)) (lv' := [(4, .int (nI (i + 1))), (2, .int (la_full ki pl ch (nI (w + t)) i)), (5, .int 0), (3, .int (nI (w + t))), (0, .ref (b 0)), (1, .int (nI w))]) hx hb dX4_lampFor_87 hl (k := 3) rfl (nI_add _ 1) (by decide) rfl (fun ls hl => ?_)
          refine lv_goto (tgt := 17) hx hb dX4_lampFor_90 (by decide) ?_
          have e_6 : (la_full ki pl ch (nI (w + t)) (i + 1)) = (la_full ki pl ch (nI (w + t)) i) := by simp [la_full, la_is, la_gt, d_0, d_2, c_5]
          exact ih_i _ _ _ (by omega) ⟨(by (try rw [e_6]); exact hP), (by (try rw [e_6]); exact hD), hS, (by (try rw [e_6]); exact lv_sub hl [1, 3, 0, 4, 5] rfl)⟩
        · refine lv_aload_n hx hb dX4_lampFor_37 rfl (lv_at hl 3 rfl) ?_
          refine lv_iload hx hb dX4_lampFor_38 (lv_at hl 2 rfl) ?_
          refine zq_cVi (As := [.int (nI i)]) (rest := []) (wc := (wMo b cI cZ cD mt mh (nI N) ki pl tu le ch ca (nI M) wa la si (nI mb) bo (nI ma) al)) (w1 := (wMo b cI cZ cD mt mh (nI N) ki pl tu le ch ca (nI M) wa la si (nI mb) bo (nI ma) al)) (wr := ([] : va_W)) (ws' := (wMo b cI cZ cD mt mh (nI N) ki pl tu le ch ca (nI M) wa la si (nI mb) bo (nI ma) al)) ⟨hx, hb, hml, hown, hts⟩ (c_X4_isReady l dC dI b cI cZ cD mt mh ki pl tu le ch ca N M mb ma wa la si bo al (by omega) (by omega) (by omega) (by omega) i (by omega) H.size) (cwV 1 hts gX4_lampFor_X4_isReady rfl rfl rfl (by decide +kernel) ⟨Nat.le_of_ble_eq_true rfl, Nat.le_of_ble_eq_true rfl⟩) hK hP hD hS hA [0, 1, 2, 3, 4, 5, 6, 7, 8, 9, 10, 11] [] [0, 1, 2, 3, 4, 5, 6, 7, 8, 9, 10, 11] rfl rfl rfl rfl (by decide) rfl rfl (ci := 4) rfl 0 rfl rfl hl.1 rfl (Nat.le_of_ble_eq_true rfl) dX4_lampFor_40 ⟨Nat.zero_le _, Nat.zero_le _⟩ (fun H locs hP hD hS => ?_)
          refine lv_if_eq (tgt := 72) hx hb dX4_lampFor_43 (by decide) (fun c_7 => ?_) (fun c_7 => ?_)
          · have d_7 := zb_eq c_7
            refine lv_iconst (v := 0) hx hb dX4_lampFor_72 (by decide) ?_
            refine lv_istore (lv' := [(5, .int 0), (2, .int (la_full ki pl ch (nI (w + t)) i)), (3, .int (nI (w + t))), (4, .int (nI i)), (0, .ref (b 0)), (1, .int (nI w))]) hx hb dX4_lampFor_73 hl (by decide) rfl (fun ls hl => ?_)
            refine lv_iload hx hb dX4_lampFor_75 (lv_at hl 0 rfl) ?_
            refine lv_if_eq (tgt := 85) hx hb dX4_lampFor_77 (by decide) (fun _ => ?_) (fun c => absurd c (by decide))
            refine lv_iload_n hx hb dX4_lampFor_85 rfl (lv_at hl 1 rfl) ?_
            refine lv_istore_n (lv' := [(2, .int (la_full ki pl ch (nI (w + t)) i)), (5, .int 0), (3, .int (nI (w + t))), (4, .int (nI i)), (0, .ref (b 0)), (1, .int (nI w))]) hx hb dX4_lampFor_86 rfl hl (by decide) rfl (fun ls hl => ?_)
            refine lv_iinc (v := nI (i + 1)) (lv' := [(4, .int (nI (i + 1))), (2, .int (la_full ki pl ch (nI (w + t)) i)), (5, .int 0), (3, .int (nI (w + t))), (0, .ref (b 0)), (1, .int (nI w))]) hx hb dX4_lampFor_87 hl (k := 3) rfl (nI_add _ 1) (by decide) rfl (fun ls hl => ?_)
            refine lv_goto (tgt := 17) hx hb dX4_lampFor_90 (by decide) ?_
            have e_8 : (la_full ki pl ch (nI (w + t)) (i + 1)) = (la_full ki pl ch (nI (w + t)) i) := by simp [la_full, la_is, la_gt, d_0, d_2, c_5, d_7]
            exact ih_i _ _ _ (by omega) ⟨(by (try rw [e_8]); exact hP), (by (try rw [e_8]); exact hD), hS, (by (try rw [e_8]); exact lv_sub hl [1, 3, 0, 4, 5] rfl)⟩
          · have d_7 := zb_ne c_7
            refine lv_iload_n hx hb dX4_lampFor_46 rfl (lv_at hl 0 rfl) ?_
            refine lv_iconst (v := (-1)) hx hb dX4_lampFor_47 (by decide) ?_
            refine lv_icmp_eq (tgt := 68) hx hb dX4_lampFor_48 (by decide) (fun c_9 => ?_) (fun c_9 => ?_)
            · refine lv_iconst (v := 1) hx hb dX4_lampFor_68 (by decide) ?_
              refine lv_goto (tgt := 73) hx hb dX4_lampFor_69 (by decide) ?_
              refine lv_istore (lv' := [(5, .int 1), (2, .int (la_full ki pl ch (nI (w + t)) i)), (3, .int (nI (w + t))), (4, .int (nI i)), (0, .ref (b 0)), (1, .int (nI w))]) hx hb dX4_lampFor_73 hl (by decide) rfl (fun ls hl => ?_)
              refine lv_iload hx hb dX4_lampFor_75 (lv_at hl 0 rfl) ?_
              refine lv_if_eq (tgt := 85) hx hb dX4_lampFor_77 (by decide) (fun c => absurd c (by decide)) (fun _ => ?_)
              refine lv_iload hx hb dX4_lampFor_80 (lv_at hl 3 rfl) ?_
              refine lv_goto (tgt := 86) hx hb dX4_lampFor_82 (by decide) ?_
              refine lv_istore_n (lv' := [(2, .int (nI i)), (5, .int 1), (3, .int (nI (w + t))), (4, .int (nI i)), (0, .ref (b 0)), (1, .int (nI w))]) hx hb dX4_lampFor_86 rfl hl (by decide) rfl (fun ls hl => ?_)
              refine lv_iinc (v := nI (i + 1)) (lv' := [(4, .int (nI (i + 1))), (2, .int (nI i)), (5, .int 1), (3, .int (nI (w + t))), (0, .ref (b 0)), (1, .int (nI w))]) hx hb dX4_lampFor_87 hl (k := 3) rfl (nI_add _ 1) (by decide) rfl (fun ls hl => ?_)
              refine lv_goto (tgt := 17) hx hb dX4_lampFor_90 (by decide) ?_
              have e_10 : (la_full ki pl ch (nI (w + t)) (i + 1)) = (nI i) := by simp [la_full, la_is, la_gt, d_0, d_2, c_5, d_7, c_9]
              exact ih_i _ _ _ (by omega) ⟨(by (try rw [e_10]); exact hP), (by (try rw [e_10]); exact hD), hS, (by (try rw [e_10]); exact lv_sub hl [1, 3, 0, 4, 5] rfl)⟩
            · refine lv_aload_n hx hb dX4_lampFor_51 rfl (lv_at hl 3 rfl) ?_
              refine va_get (D := (dC, dI)) (ci := 4) (v := .ref (b 5)) (C := RX4) (T := TX4) (N := 17) hx hb hts hin_4 hown hK hP 0 rfl rfl 7 (by decide) hf_23 (fun _ h9 => h9) rfl dX4_lampFor_52 ?_
              refine lv_iload hx hb dX4_lampFor_55 (lv_at hl 2 rfl) ?_
              refine zq_dald hx hb hK hP 5 2 rfl rfl (j := i) (by omega) (by decide) dX4_lampFor_57 ?_
              refine lv_aload_n hx hb dX4_lampFor_58 rfl (lv_at hl 3 rfl) ?_
              refine va_get (D := (dC, dI)) (ci := 4) (v := .ref (b 5)) (C := RX4) (T := TX4) (N := 17) hx hb hts hin_4 hown hK hP 0 rfl rfl 7 (by decide) hf_23 (fun _ h9 => h9) rfl dX4_lampFor_59 ?_
              refine lv_iload_n hx hb dX4_lampFor_62 rfl (lv_at hl 0 rfl) ?_
              obtain ⟨b9, hb9, eb9⟩ := (la_full_or ki pl ch (nI (w + t)) i).resolve_left c_9
              have cb9 : (la_full ki pl ch (nI (w + t)) i).toNatClampNeg = b9 := by rw [eb9]; exact nI_clamp (by omega)
              rw [eb9]
              refine zq_dald hx hb hK hP 5 2 rfl rfl (j := b9) (by omega) (by decide) dX4_lampFor_63 ?_
              refine lv_dcmp hx hb dX4_lampFor_64 ?_
              refine lv_if_le (tgt := 72) hx hb dX4_lampFor_65 (by decide) (fun c_11 => ?_) (fun c_11 => ?_)
              · refine lv_iconst (v := 0) hx hb dX4_lampFor_72 (by decide) ?_
                refine lv_istore (lv' := [(5, .int 0), (2, .int (la_full ki pl ch (nI (w + t)) i)), (3, .int (nI (w + t))), (4, .int (nI i)), (0, .ref (b 0)), (1, .int (nI w))]) hx hb dX4_lampFor_73 hl (by decide) rfl (fun ls hl => ?_)
                refine lv_iload hx hb dX4_lampFor_75 (lv_at hl 0 rfl) ?_
                refine lv_if_eq (tgt := 85) hx hb dX4_lampFor_77 (by decide) (fun _ => ?_) (fun c => absurd c (by decide))
                refine lv_iload_n hx hb dX4_lampFor_85 rfl (lv_at hl 1 rfl) ?_
                refine lv_istore_n (lv' := [(2, .int (la_full ki pl ch (nI (w + t)) i)), (5, .int 0), (3, .int (nI (w + t))), (4, .int (nI i)), (0, .ref (b 0)), (1, .int (nI w))]) hx hb dX4_lampFor_86 rfl hl (by decide) rfl (fun ls hl => ?_)
                refine lv_iinc (v := nI (i + 1)) (lv' := [(4, .int (nI (i + 1))), (2, .int (la_full ki pl ch (nI (w + t)) i)), (5, .int 0), (3, .int (nI (w + t))), (0, .ref (b 0)), (1, .int (nI w))]) hx hb dX4_lampFor_87 hl (k := 3) rfl (nI_add _ 1) (by decide) rfl (fun ls hl => ?_)
                refine lv_goto (tgt := 17) hx hb dX4_lampFor_90 (by decide) ?_
                have e_12 : (la_full ki pl ch (nI (w + t)) (i + 1)) = (la_full ki pl ch (nI (w + t)) i) := by simp [la_full, la_is, la_gt, d_0, d_2, c_5, d_7, c_9, cb9, c_11]
                exact ih_i _ _ _ (by omega) ⟨(by (try rw [e_12]); exact hP), (by (try rw [e_12]); exact hD), hS, (by (try rw [e_12]); exact lv_sub hl [1, 3, 0, 4, 5] rfl)⟩
              · refine lv_iconst (v := 1) hx hb dX4_lampFor_68 (by decide) ?_
                refine lv_goto (tgt := 73) hx hb dX4_lampFor_69 (by decide) ?_
                refine lv_istore (lv' := [(5, .int 1), (2, .int (la_full ki pl ch (nI (w + t)) i)), (3, .int (nI (w + t))), (4, .int (nI i)), (0, .ref (b 0)), (1, .int (nI w))]) hx hb dX4_lampFor_73 hl (by decide) rfl (fun ls hl => ?_)
                refine lv_iload hx hb dX4_lampFor_75 (lv_at hl 0 rfl) ?_
                refine lv_if_eq (tgt := 85) hx hb dX4_lampFor_77 (by decide) (fun c => absurd c (by decide)) (fun _ => ?_)
                refine lv_iload hx hb dX4_lampFor_80 (lv_at hl 3 rfl) ?_
                refine lv_goto (tgt := 86) hx hb dX4_lampFor_82 (by decide) ?_
                refine lv_istore_n (lv' := [(2, .int (nI i)), (5, .int 1), (3, .int (nI (w + t))), (4, .int (nI i)), (0, .ref (b 0)), (1, .int (nI w))]) hx hb dX4_lampFor_86 rfl hl (by decide) rfl (fun ls hl => ?_)
                refine lv_iinc (v := nI (i + 1)) (lv' := [(4, .int (nI (i + 1))), (2, .int (nI i)), (5, .int 1), (3, .int (nI (w + t))), (0, .ref (b 0)), (1, .int (nI w))]) hx hb dX4_lampFor_87 hl (k := 3) rfl (nI_add _ 1) (by decide) rfl (fun ls hl => ?_)
                refine lv_goto (tgt := 17) hx hb dX4_lampFor_90 (by decide) ?_
                have e_13 : (la_full ki pl ch (nI (w + t)) (i + 1)) = (nI i) := by simp [la_full, la_is, la_gt, d_0, d_2, c_5, d_7, c_9, cb9, c_11]
                exact ih_i _ _ _ (by omega) ⟨(by (try rw [e_13]); exact hP), (by (try rw [e_13]); exact hD), hS, (by (try rw [e_13]); exact lv_sub hl [1, 3, 0, 4, 5] rfl)⟩

set_option maxHeartbeats 4000000 in
set_option maxRecDepth 100000 in
theorem c_X4_comesOff (l : Launch) (dC : Nat → ClassId) (dI : Nat → Nat → Nat) (b : Nat → Nat) (cI cZ cD : ClassId) (mt mh : Int32) (ki pl tu le : Nat → Int32) (ch ca : Nat → UInt64) (N M mb ma : Nat) (wa la si bo al : Nat → Int32) (hN : N ≤ 40) (hM : M ≤ 30) (hmb : mb ≤ 30) (hma : ma ≤ 60) (mi : Nat) (hm : mi < M) (sz : Nat) : zq_Mv l yX4_comesOff wsX4_comesOff ({ frames := 0, cells := 0, slots := 0, locals := 0 } : Room) (dC, dI) (zq_T cI cZ cD) [.ref (b 0), .int (nI mi)] (wMo b cI cZ cD mt mh (nI N) ki pl tu le ch ca (nI M) wa la si (nI mb) bo (nI ma) al) (wMo b cI cZ cD mt mh (nI N) ki pl tu le ch ca (nI M) wa (upd la mi (-1)) si (nI (cp_k (cp_1 mi) bo mb).2) ((cp_k (cp_1 mi) bo mb).1) (nI (cp_k (cp_2 mi) al ma).2) ((cp_k (cp_2 mi) al ma).1)) sz := by
  refine Met.ofW (cc := cX4_comesOff) (maxL := 4) (ret := none) (by decide) rfl ?_
  intro p e s m args below meth c s₁ B hml hv
  obtain ⟨rfl, hsz, hP, hK, hD0⟩ := hv
  have hx := B.exec
  have hb := B.bytes
  have hr := B.returns
  have hts := atoms_spec (ws := wsX4_comesOff) B.pre
  have hown : s.vm.findClass RX4 = some m.cls := findClass_of_methodNamed B.named
  have hlocks := B.notSynchronized
  subst hsz
  have hD := hD0.self (sz := s.heap.size)
  generalize hAe : va_A (wMo b cI cZ cD mt mh (nI N) ki pl tu le ch ca (nI M) wa la si (nI mb) bo (nI ma) al) s.heap.size = A at hD ⊢
  have hA : ∀ q : Nat, s.heap.size ≤ q → A q := fun q h => by rw [← hAe]; exact Or.inr h
  have hS : va_S A s.heap s.heap [] := va_S.rf
  have hP : va_P (dC, dI) vwCl (wMo b cI cZ cD mt mh (nI N) ki pl tu le ch ca (nI M) wa la si (nI mb) bo (nI ma) al) s.heap := hP
  have hl := lv_entry ([.ref (b 0), .int (nI mi)]) (n := 4) (Nat.le_of_ble_eq_true rfl)
  rw [lg_entry_eq]
  generalize (lg_sl ([.ref (b 0), .int (nI mi)]) ++ List.replicate (4 - (lg_sl ([.ref (b 0), .int (nI mi)])).length) Slot.unset).toArray = ls at hl ⊢
  have hl : lv_has ls 4 [(0, .ref (b 0)), (1, .int (nI mi))] := hl
  have hf_85 := hts (.fieldLink RX4 85 "LampRoomModel" "below" "I") (by decide +kernel)
  have hin_4 : ∀ w ∈ wsX40, w ∈ wsX4_comesOff := by decide +kernel
  have hf_88 := hts (.fieldLink RX4 88 "LampRoomModel" "alarms" "I") (by decide +kernel)
  have hf_33 := hts (.fieldLink RX4 33 "LampRoomModel" "lamp" "[I") (by decide +kernel)
  have hf_42 := hts (.fieldLink RX4 42 "LampRoomModel" "alarm" "[I") (by decide +kernel)
  have hf_39 := hts (.fieldLink RX4 39 "LampRoomModel" "board" "[I") (by decide +kernel)
  refine lv_iconst (v := 0) hx hb dX4_comesOff_0 (by decide) ?_
  refine lv_istore_n (lv' := [(2, .int 0), (0, .ref (b 0)), (1, .int (nI mi))]) hx hb dX4_comesOff_1 rfl hl (by decide) rfl (fun ls hl => ?_)
  refine lv_iconst (v := 0) hx hb dX4_comesOff_2 (by decide) ?_
  refine lv_istore_n (lv' := [(3, .int 0), (2, .int 0), (0, .ref (b 0)), (1, .int (nI mi))]) hx hb dX4_comesOff_3 rfl hl (by decide) rfl (fun ls hl => ?_)
  refine zq_loop 4 mb (fun i H locs ls => va_P (dC, dI) vwCl (wMo b cI cZ cD mt mh (nI N) ki pl tu le ch ca (nI M) wa la si (nI mb) ((cp_k (cp_1 mi) bo i).1) (nI ma) al) H ∧ va_D A (wMo b cI cZ cD mt mh (nI N) ki pl tu le ch ca (nI M) wa la si (nI mb) ((cp_k (cp_1 mi) bo i).1) (nI ma) al) ∧ va_S A s.heap H locs ∧ lv_has ls 4 [(2, .int (nI (cp_k (cp_1 mi) bo i).2)), (3, .int (nI i)), (0, .ref (b 0)), (1, .int (nI mi))]) ?_ 0 (by omega) _ _ _ ⟨hP, hD, hS, lv_sub hl [1, 0, 2, 3] rfl⟩
  intro i hi_i ih_i H locs ls hh
  obtain ⟨hP, hD, hS, hl⟩ := hh
  refine lv_iload_n hx hb dX4_comesOff_4 rfl (lv_at hl 1 rfl) ?_
  refine lv_aload_n hx hb dX4_comesOff_5 rfl (lv_at hl 2 rfl) ?_
  refine va_get (D := (dC, dI)) (ci := 4) (v := .int (nI mb)) (C := RX4) (T := TX4) (N := 17) hx hb hts hin_4 hown hK hP 0 rfl rfl 13 (by decide) hf_85 (fun _ h9 => h9) rfl dX4_comesOff_6 ?_
  refine lv_icmp_ge (tgt := 48) hx hb dX4_comesOff_9 (by decide) (fun c_0 => ?_) (fun c_0 => ?_)
  · have d_0 := (nI_leI (a := mb) (b := i) (by omega) (by omega)).mp c_0
    have ei_i : i = mb := by omega
    refine lv_aload_n hx hb dX4_comesOff_48 rfl (lv_at hl 2 rfl) ?_
    refine lv_iload_n hx hb dX4_comesOff_49 rfl (lv_at hl 0 rfl) ?_
    refine va_put (D := (dC, dI)) (ci := 4) (v := .int (nI (cp_k (cp_1 mi) bo i).2)) (ty := .int) (C := RX4) (T := TX4) (N := 17) hx hb hts hin_4 tyX4 tyX4_ok nmX4 hown hK hP hD hS 0 rfl rfl 13 (by decide) hf_85 (fun _ h9 => h9) rfl (by decide +kernel) rfl rfl (Nat.le_of_ble_eq_true rfl) dX4_comesOff_50 (fun H locs hP hD hS => ?_)
    have hP : va_P (dC, dI) vwCl (wMo b cI cZ cD mt mh (nI N) ki pl tu le ch ca (nI M) wa la si (nI (cp_k (cp_1 mi) bo i).2) ((cp_k (cp_1 mi) bo i).1) (nI ma) al) H := hP
    have hD : va_D A (wMo b cI cZ cD mt mh (nI N) ki pl tu le ch ca (nI M) wa la si (nI (cp_k (cp_1 mi) bo i).2) ((cp_k (cp_1 mi) bo i).1) (nI ma) al) := hD
    refine lv_iconst (v := 0) hx hb dX4_comesOff_53 (by decide) ?_
    refine lv_istore_n (lv' := [(2, .int 0), (3, .int (nI i)), (0, .ref (b 0)), (1, .int (nI mi))]) hx hb dX4_comesOff_54 rfl hl (by decide) rfl (fun ls hl => ?_)
    refine lv_iconst (v := 0) hx hb dX4_comesOff_55 (by decide) ?_
    refine lv_istore_n (lv' := [(3, .int 0), (2, .int 0), (0, .ref (b 0)), (1, .int (nI mi))]) hx hb dX4_comesOff_56 rfl hl (by decide) rfl (fun ls hl => ?_)
    refine zq_loop 57 ma (fun u H locs ls => va_P (dC, dI) vwCl (wMo b cI cZ cD mt mh (nI N) ki pl tu le ch ca (nI M) wa la si (nI (cp_k (cp_1 mi) bo i).2) ((cp_k (cp_1 mi) bo i).1) (nI ma) ((cp_k (cp_2 mi) al u).1)) H ∧ va_D A (wMo b cI cZ cD mt mh (nI N) ki pl tu le ch ca (nI M) wa la si (nI (cp_k (cp_1 mi) bo i).2) ((cp_k (cp_1 mi) bo i).1) (nI ma) ((cp_k (cp_2 mi) al u).1)) ∧ va_S A s.heap H locs ∧ lv_has ls 4 [(2, .int (nI (cp_k (cp_2 mi) al u).2)), (3, .int (nI u)), (0, .ref (b 0)), (1, .int (nI mi))]) ?_ 0 (by omega) _ _ _ ⟨hP, hD, hS, lv_sub hl [1, 0, 2, 3] rfl⟩
    intro u hi_u ih_u H locs ls hh
    obtain ⟨hP, hD, hS, hl⟩ := hh
    refine lv_iload_n hx hb dX4_comesOff_57 rfl (lv_at hl 1 rfl) ?_
    refine lv_aload_n hx hb dX4_comesOff_58 rfl (lv_at hl 2 rfl) ?_
    refine va_get (D := (dC, dI)) (ci := 4) (v := .int (nI ma)) (C := RX4) (T := TX4) (N := 17) hx hb hts hin_4 hown hK hP 0 rfl rfl 15 (by decide) hf_88 (fun _ h9 => h9) rfl dX4_comesOff_59 ?_
    refine lv_icmp_ge (tgt := 103) hx hb dX4_comesOff_62 (by decide) (fun c_1 => ?_) (fun c_1 => ?_)
    · have d_1 := (nI_leI (a := ma) (b := u) (by omega) (by omega)).mp c_1
      have ei_u : u = ma := by omega
      refine lv_aload_n hx hb dX4_comesOff_103 rfl (lv_at hl 2 rfl) ?_
      refine lv_iload_n hx hb dX4_comesOff_104 rfl (lv_at hl 0 rfl) ?_
      refine va_put (D := (dC, dI)) (ci := 4) (v := .int (nI (cp_k (cp_2 mi) al u).2)) (ty := .int) (C := RX4) (T := TX4) (N := 17) hx hb hts hin_4 tyX4 tyX4_ok nmX4 hown hK hP hD hS 0 rfl rfl 15 (by decide) hf_88 (fun _ h9 => h9) rfl (by decide +kernel) rfl rfl (Nat.le_of_ble_eq_true rfl) dX4_comesOff_105 (fun H locs hP hD hS => ?_)
      have hP : va_P (dC, dI) vwCl (wMo b cI cZ cD mt mh (nI N) ki pl tu le ch ca (nI M) wa la si (nI (cp_k (cp_1 mi) bo i).2) ((cp_k (cp_1 mi) bo i).1) (nI (cp_k (cp_2 mi) al u).2) ((cp_k (cp_2 mi) al u).1)) H := hP
      have hD : va_D A (wMo b cI cZ cD mt mh (nI N) ki pl tu le ch ca (nI M) wa la si (nI (cp_k (cp_1 mi) bo i).2) ((cp_k (cp_1 mi) bo i).1) (nI (cp_k (cp_2 mi) al u).2) ((cp_k (cp_2 mi) al u).1)) := hD
      refine lv_aload_n hx hb dX4_comesOff_108 rfl (lv_at hl 2 rfl) ?_
      refine va_get (D := (dC, dI)) (ci := 4) (v := .ref (b 8)) (C := RX4) (T := TX4) (N := 17) hx hb hts hin_4 hown hK hP 0 rfl rfl 11 (by decide) hf_33 (fun _ h9 => h9) rfl dX4_comesOff_109 ?_
      refine lv_iload_n hx hb dX4_comesOff_112 rfl (lv_at hl 3 rfl) ?_
      refine lv_iconst (v := (-1)) hx hb dX4_comesOff_113 (by decide) ?_
      refine zq_iast hx hb hK hP hD hS 8 0 rfl rfl (j := mi) (by omega) (by decide) (wMo b cI cZ cD mt mh (nI N) ki pl tu le ch ca (nI M) wa (upd la mi (-1)) si (nI (cp_k (cp_1 mi) bo i).2) ((cp_k (cp_1 mi) bo i).1) (nI (cp_k (cp_2 mi) al u).2) ((cp_k (cp_2 mi) al u).1)) rfl dX4_comesOff_114 (fun H locs hP hD hS => ?_)
      have e_2 : (nI (cp_k (cp_1 mi) bo mb).2) = (nI (cp_k (cp_1 mi) bo i).2) := by first | with_reducible rfl | simp [d_0, ei_i, d_1, ei_u]
      have e_3 : ((cp_k (cp_1 mi) bo mb).1) = ((cp_k (cp_1 mi) bo i).1) := by first | with_reducible rfl | simp [d_0, ei_i, d_1, ei_u]
      have e_4 : (nI (cp_k (cp_2 mi) al ma).2) = (nI (cp_k (cp_2 mi) al u).2) := by first | with_reducible rfl | simp [d_0, ei_i, d_1, ei_u]
      have e_5 : ((cp_k (cp_2 mi) al ma).1) = ((cp_k (cp_2 mi) al u).1) := by first | with_reducible rfl | simp [d_0, ei_i, d_1, ei_u]
      exact W.vret hx hb hr (zq_qv (by rw [e_2, e_3, e_4, e_5]; exact hP) hK (by rw [e_2, e_3, e_4, e_5]; exact hD) hS) hS.2.2 dX4_comesOff_115
    · have d_1 := Nat.not_le.mp (fun h => c_1 ((nI_leI (a := ma) (b := u) (by omega) (by omega)).mpr h))
      have hcp2 := cp_le (cp_2 mi) al u
      refine lv_aload_n hx hb dX4_comesOff_65 rfl (lv_at hl 2 rfl) ?_
      refine va_get (D := (dC, dI)) (ci := 4) (v := .ref (b 11)) (C := RX4) (T := TX4) (N := 17) hx hb hts hin_4 hown hK hP 0 rfl rfl 16 (by decide) hf_42 (fun _ h9 => h9) rfl dX4_comesOff_66 ?_
      refine lv_iload_n hx hb dX4_comesOff_69 rfl (lv_at hl 0 rfl) ?_
      refine lv_aload_n hx hb dX4_comesOff_70 rfl (lv_at hl 2 rfl) ?_
      refine va_get (D := (dC, dI)) (ci := 4) (v := .ref (b 11)) (C := RX4) (T := TX4) (N := 17) hx hb hts hin_4 hown hK hP 0 rfl rfl 16 (by decide) hf_42 (fun _ h9 => h9) rfl dX4_comesOff_71 ?_
      refine lv_iload_n hx hb dX4_comesOff_74 rfl (lv_at hl 1 rfl) ?_
      refine zq_iald hx hb hK hP 11 0 rfl rfl (j := u) (by omega) (by decide) dX4_comesOff_75 ?_
      refine zq_iast hx hb hK hP hD hS 11 0 rfl rfl (j := ((cp_k (cp_2 mi) al u).2)) (by omega) (by decide) (wMo b cI cZ cD mt mh (nI N) ki pl tu le ch ca (nI M) wa la si (nI (cp_k (cp_1 mi) bo i).2) ((cp_k (cp_1 mi) bo i).1) (nI ma) (upd ((cp_k (cp_2 mi) al u).1) ((cp_k (cp_2 mi) al u).2) (((cp_k (cp_2 mi) al u).1) u))) rfl dX4_comesOff_76 (fun H locs hP hD hS => ?_)
      refine lv_iload_n hx hb dX4_comesOff_77 rfl (lv_at hl 0 rfl) ?_
      refine lv_aload_n hx hb dX4_comesOff_78 rfl (lv_at hl 2 rfl) ?_
      refine va_get (D := (dC, dI)) (ci := 4) (v := .ref (b 11)) (C := RX4) (T := TX4) (N := 17) hx hb hts hin_4 hown hK hP 0 rfl rfl 16 (by decide) hf_42 (fun _ h9 => h9) rfl dX4_comesOff_79 ?_
      refine lv_iload_n hx hb dX4_comesOff_82 rfl (lv_at hl 1 rfl) ?_
      refine zq_iald hx hb hK hP 11 0 rfl rfl (j := u) (by omega) (by decide) dX4_comesOff_83 ?_
      refine lv_iconst (v := 2) hx hb dX4_comesOff_84 (by decide) ?_
      refine zq_idiv hx hb dX4_comesOff_85 (by decide) (v := ((upd ((cp_k (cp_2 mi) al u).1) ((cp_k (cp_2 mi) al u).2) (((cp_k (cp_2 mi) al u).1) u)) u) / 2) (rfl) ?_
      refine lv_iload_n hx hb dX4_comesOff_86 rfl (lv_at hl 3 rfl) ?_
      refine lv_icmp_ne (tgt := 94) hx hb dX4_comesOff_87 (by decide) (fun c_6 => ?_) (fun c_6 => ?_)
      · refine lv_iconst (v := 1) hx hb dX4_comesOff_94 (by decide) ?_
        refine t_iadd hx hb dX4_comesOff_95 (v := nI (((cp_k (cp_2 mi) al u).2) + 1)) (nI_1 _) ?_
        refine lv_istore_n (lv' := [(2, .int (nI (((cp_k (cp_2 mi) al u).2) + 1))), (3, .int (nI u)), (0, .ref (b 0)), (1, .int (nI mi))]) hx hb dX4_comesOff_96 rfl hl (by decide) rfl (fun ls hl => ?_)
        refine lv_iinc (v := nI (u + 1)) (lv' := [(3, .int (nI (u + 1))), (2, .int (nI (((cp_k (cp_2 mi) al u).2) + 1))), (0, .ref (b 0)), (1, .int (nI mi))]) hx hb dX4_comesOff_97 hl (k := 1) rfl (nI_add _ 1) (by decide) rfl (fun ls hl => ?_)
        refine lv_goto (tgt := 57) hx hb dX4_comesOff_100 (by decide) ?_
        have e_7 : ((cp_k (cp_2 mi) al (u + 1)).1) = (upd ((cp_k (cp_2 mi) al u).1) ((cp_k (cp_2 mi) al u).2) (((cp_k (cp_2 mi) al u).1) u)) := by rw [cp_k]; (try simp [cp_2, d_0, ei_i, d_1, c_6])
        have e_8 : (nI (cp_k (cp_2 mi) al (u + 1)).2) = (nI (((cp_k (cp_2 mi) al u).2) + 1)) := by rw [cp_k]; (try simp [cp_2, d_0, ei_i, d_1, c_6])
        exact ih_u _ _ _ (by omega) ⟨(by (try rw [e_7]); (try rw [e_8]); exact hP), (by (try rw [e_7]); (try rw [e_8]); exact hD), hS, (by (try rw [e_7]); (try rw [e_8]); exact lv_sub hl [1, 0, 2, 3] rfl)⟩
      · refine lv_iconst (v := 0) hx hb dX4_comesOff_90 (by decide) ?_
        refine lv_goto (tgt := 95) hx hb dX4_comesOff_91 (by decide) ?_
        refine t_iadd hx hb dX4_comesOff_95 (v := nI (cp_k (cp_2 mi) al u).2) (zq_add0 _) ?_
        refine lv_istore_n (lv' := [(2, .int (nI (cp_k (cp_2 mi) al u).2)), (3, .int (nI u)), (0, .ref (b 0)), (1, .int (nI mi))]) hx hb dX4_comesOff_96 rfl hl (by decide) rfl (fun ls hl => ?_)
        refine lv_iinc (v := nI (u + 1)) (lv' := [(3, .int (nI (u + 1))), (2, .int (nI (cp_k (cp_2 mi) al u).2)), (0, .ref (b 0)), (1, .int (nI mi))]) hx hb dX4_comesOff_97 hl (k := 1) rfl (nI_add _ 1) (by decide) rfl (fun ls hl => ?_)
        refine lv_goto (tgt := 57) hx hb dX4_comesOff_100 (by decide) ?_
        have e_9 : ((cp_k (cp_2 mi) al (u + 1)).1) = (upd ((cp_k (cp_2 mi) al u).1) ((cp_k (cp_2 mi) al u).2) (((cp_k (cp_2 mi) al u).1) u)) := by rw [cp_k]; (try simp [cp_2, d_0, ei_i, d_1, c_6])
        have e_10 : (nI (cp_k (cp_2 mi) al (u + 1)).2) = (nI (cp_k (cp_2 mi) al u).2) := by rw [cp_k]; (try simp [cp_2, d_0, ei_i, d_1, c_6])
        exact ih_u _ _ _ (by omega) ⟨(by (try rw [e_9]); (try rw [e_10]); exact hP), (by (try rw [e_9]); (try rw [e_10]); exact hD), hS, (by (try rw [e_9]); (try rw [e_10]); exact lv_sub hl [1, 0, 2, 3] rfl)⟩
  · have d_0 := Nat.not_le.mp (fun h => c_0 ((nI_leI (a := mb) (b := i) (by omega) (by omega)).mpr h))
    have hcp := cp_le (cp_1 mi) bo i
    refine lv_aload_n hx hb dX4_comesOff_12 rfl (lv_at hl 2 rfl) ?_
    refine va_get (D := (dC, dI)) (ci := 4) (v := .ref (b 10)) (C := RX4) (T := TX4) (N := 17) hx hb hts hin_4 hown hK hP 0 rfl rfl 14 (by decide) hf_39 (fun _ h9 => h9) rfl dX4_comesOff_13 ?_
    refine lv_iload_n hx hb dX4_comesOff_16 rfl (lv_at hl 0 rfl) ?_
    refine lv_aload_n hx hb dX4_comesOff_17 rfl (lv_at hl 2 rfl) ?_
    refine va_get (D := (dC, dI)) (ci := 4) (v := .ref (b 10)) (C := RX4) (T := TX4) (N := 17) hx hb hts hin_4 hown hK hP 0 rfl rfl 14 (by decide) hf_39 (fun _ h9 => h9) rfl dX4_comesOff_18 ?_
    refine lv_iload_n hx hb dX4_comesOff_21 rfl (lv_at hl 1 rfl) ?_
    refine zq_iald hx hb hK hP 10 0 rfl rfl (j := i) (by omega) (by decide) dX4_comesOff_22 ?_
    refine zq_iast hx hb hK hP hD hS 10 0 rfl rfl (j := ((cp_k (cp_1 mi) bo i).2)) (by omega) (by decide) (wMo b cI cZ cD mt mh (nI N) ki pl tu le ch ca (nI M) wa la si (nI mb) (upd ((cp_k (cp_1 mi) bo i).1) ((cp_k (cp_1 mi) bo i).2) (((cp_k (cp_1 mi) bo i).1) i)) (nI ma) al) rfl dX4_comesOff_23 (fun H locs hP hD hS => ?_)
    refine lv_iload_n hx hb dX4_comesOff_24 rfl (lv_at hl 0 rfl) ?_
    refine lv_aload_n hx hb dX4_comesOff_25 rfl (lv_at hl 2 rfl) ?_
    refine va_get (D := (dC, dI)) (ci := 4) (v := .ref (b 10)) (C := RX4) (T := TX4) (N := 17) hx hb hts hin_4 hown hK hP 0 rfl rfl 14 (by decide) hf_39 (fun _ h9 => h9) rfl dX4_comesOff_26 ?_
    refine lv_iload_n hx hb dX4_comesOff_29 rfl (lv_at hl 1 rfl) ?_
    refine zq_iald hx hb hK hP 10 0 rfl rfl (j := i) (by omega) (by decide) dX4_comesOff_30 ?_
    refine lv_iload_n hx hb dX4_comesOff_31 rfl (lv_at hl 3 rfl) ?_
    refine lv_icmp_ne (tgt := 39) hx hb dX4_comesOff_32 (by decide) (fun c_11 => ?_) (fun c_11 => ?_)
    · refine lv_iconst (v := 1) hx hb dX4_comesOff_39 (by decide) ?_
      refine t_iadd hx hb dX4_comesOff_40 (v := nI (((cp_k (cp_1 mi) bo i).2) + 1)) (nI_1 _) ?_
      refine lv_istore_n (lv' := [(2, .int (nI (((cp_k (cp_1 mi) bo i).2) + 1))), (3, .int (nI i)), (0, .ref (b 0)), (1, .int (nI mi))]) hx hb dX4_comesOff_41 rfl hl (by decide) rfl (fun ls hl => ?_)
      refine lv_iinc (v := nI (i + 1)) (lv' := [(3, .int (nI (i + 1))), (2, .int (nI (((cp_k (cp_1 mi) bo i).2) + 1))), (0, .ref (b 0)), (1, .int (nI mi))]) hx hb dX4_comesOff_42 hl (k := 1) rfl (nI_add _ 1) (by decide) rfl (fun ls hl => ?_)
      refine lv_goto (tgt := 4) hx hb dX4_comesOff_45 (by decide) ?_
      have e_12 : ((cp_k (cp_1 mi) bo (i + 1)).1) = (upd ((cp_k (cp_1 mi) bo i).1) ((cp_k (cp_1 mi) bo i).2) (((cp_k (cp_1 mi) bo i).1) i)) := by rw [cp_k]; (try simp [cp_1, d_0, c_11])
      have e_13 : (nI (cp_k (cp_1 mi) bo (i + 1)).2) = (nI (((cp_k (cp_1 mi) bo i).2) + 1)) := by rw [cp_k]; (try simp [cp_1, d_0, c_11])
      exact ih_i _ _ _ (by omega) ⟨(by (try rw [e_12]); (try rw [e_13]); exact hP), (by (try rw [e_12]); (try rw [e_13]); exact hD), hS, (by (try rw [e_12]); (try rw [e_13]); exact lv_sub hl [1, 0, 2, 3] rfl)⟩
    · refine lv_iconst (v := 0) hx hb dX4_comesOff_35 (by decide) ?_
      refine lv_goto (tgt := 40) hx hb dX4_comesOff_36 (by decide) ?_
      refine t_iadd hx hb dX4_comesOff_40 (v := nI (cp_k (cp_1 mi) bo i).2) (zq_add0 _) ?_
      refine lv_istore_n (lv' := [(2, .int (nI (cp_k (cp_1 mi) bo i).2)), (3, .int (nI i)), (0, .ref (b 0)), (1, .int (nI mi))]) hx hb dX4_comesOff_41 rfl hl (by decide) rfl (fun ls hl => ?_)
      refine lv_iinc (v := nI (i + 1)) (lv' := [(3, .int (nI (i + 1))), (2, .int (nI (cp_k (cp_1 mi) bo i).2)), (0, .ref (b 0)), (1, .int (nI mi))]) hx hb dX4_comesOff_42 hl (k := 1) rfl (nI_add _ 1) (by decide) rfl (fun ls hl => ?_)
      refine lv_goto (tgt := 4) hx hb dX4_comesOff_45 (by decide) ?_
      have e_14 : ((cp_k (cp_1 mi) bo (i + 1)).1) = (upd ((cp_k (cp_1 mi) bo i).1) ((cp_k (cp_1 mi) bo i).2) (((cp_k (cp_1 mi) bo i).1) i)) := by rw [cp_k]; (try simp [cp_1, d_0, c_11])
      have e_15 : (nI (cp_k (cp_1 mi) bo (i + 1)).2) = (nI (cp_k (cp_1 mi) bo i).2) := by rw [cp_k]; (try simp [cp_1, d_0, c_11])
      exact ih_i _ _ _ (by omega) ⟨(by (try rw [e_14]); (try rw [e_15]); exact hP), (by (try rw [e_14]); (try rw [e_15]); exact hD), hS, (by (try rw [e_14]); (try rw [e_15]); exact lv_sub hl [1, 0, 2, 3] rfl)⟩

set_option maxHeartbeats 4000000 in
set_option maxRecDepth 100000 in
theorem c_X4_isAlarmed (l : Launch) (dC : Nat → ClassId) (dI : Nat → Nat → Nat) (b : Nat → Nat) (cI cZ cD : ClassId) (mt mh : Int32) (ki pl tu le : Nat → Int32) (ch ca : Nat → UInt64) (N M mb ma : Nat) (wa la si bo al : Nat → Int32) (hN : N ≤ 40) (hM : M ≤ 30) (hmb : mb ≤ 30) (hma : ma ≤ 60) (x : Int32) (sz : Nat) : zq_Mi l yX4_isAlarmed wsX4_isAlarmed ({ frames := 0, cells := 0, slots := 0, locals := 0 } : Room) (dC, dI) (zq_T cI cZ cD) [.ref (b 0), .int x] (wMo b cI cZ cD mt mh (nI N) ki pl tu le ch ca (nI M) wa la si (nI mb) bo (nI ma) al) (zb (al_has al x ma)) (wMo b cI cZ cD mt mh (nI N) ki pl tu le ch ca (nI M) wa la si (nI mb) bo (nI ma) al) sz := by
  refine Met.ofW (cc := cX4_isAlarmed) (maxL := 4) (ret := (some .boolean)) (by decide) rfl ?_
  intro p e s m args below meth c s₁ B hml hv
  obtain ⟨rfl, hsz, hP, hK, hD0⟩ := hv
  have hx := B.exec
  have hb := B.bytes
  have hr := B.returns
  have hts := atoms_spec (ws := wsX4_isAlarmed) B.pre
  have hown : s.vm.findClass RX4 = some m.cls := findClass_of_methodNamed B.named
  have hlocks := B.notSynchronized
  subst hsz
  have hD := hD0.self (sz := s.heap.size)
  generalize hAe : va_A (wMo b cI cZ cD mt mh (nI N) ki pl tu le ch ca (nI M) wa la si (nI mb) bo (nI ma) al) s.heap.size = A at hD ⊢
  have hA : ∀ q : Nat, s.heap.size ≤ q → A q := fun q h => by rw [← hAe]; exact Or.inr h
  have hS : va_S A s.heap s.heap [] := va_S.rf
  have hP : va_P (dC, dI) vwCl (wMo b cI cZ cD mt mh (nI N) ki pl tu le ch ca (nI M) wa la si (nI mb) bo (nI ma) al) s.heap := hP
  have hl := lv_entry ([.ref (b 0), .int x]) (n := 4) (Nat.le_of_ble_eq_true rfl)
  rw [lg_entry_eq]
  generalize (lg_sl ([.ref (b 0), .int x]) ++ List.replicate (4 - (lg_sl ([.ref (b 0), .int x])).length) Slot.unset).toArray = ls at hl ⊢
  have hl : lv_has ls 4 [(0, .ref (b 0)), (1, .int x)] := hl
  have hf_88 := hts (.fieldLink RX4 88 "LampRoomModel" "alarms" "I") (by decide +kernel)
  have hin_4 : ∀ w ∈ wsX40, w ∈ wsX4_isAlarmed := by decide +kernel
  have hf_42 := hts (.fieldLink RX4 42 "LampRoomModel" "alarm" "[I") (by decide +kernel)
  refine lv_iconst (v := 0) hx hb dX4_isAlarmed_0 (by decide) ?_
  refine lv_istore_n (lv' := [(2, .int 0), (0, .ref (b 0)), (1, .int x)]) hx hb dX4_isAlarmed_1 rfl hl (by decide) rfl (fun ls hl => ?_)
  refine lv_iconst (v := 0) hx hb dX4_isAlarmed_2 (by decide) ?_
  refine lv_istore_n (lv' := [(3, .int 0), (2, .int 0), (0, .ref (b 0)), (1, .int x)]) hx hb dX4_isAlarmed_3 rfl hl (by decide) rfl (fun ls hl => ?_)
  refine zq_loop 4 ma (fun i H locs ls => va_P (dC, dI) vwCl (wMo b cI cZ cD mt mh (nI N) ki pl tu le ch ca (nI M) wa la si (nI mb) bo (nI ma) al) H ∧ va_D A (wMo b cI cZ cD mt mh (nI N) ki pl tu le ch ca (nI M) wa la si (nI mb) bo (nI ma) al) ∧ va_S A s.heap H locs ∧ lv_has ls 4 [(2, .int (zb (al_has al x i))), (3, .int (nI i)), (0, .ref (b 0)), (1, .int x)]) ?_ 0 (by omega) _ _ _ ⟨hP, hD, hS, lv_sub hl [1, 0, 2, 3] rfl⟩
  intro i hi_i ih_i H locs ls hh
  obtain ⟨hP, hD, hS, hl⟩ := hh
  refine lv_iload_n hx hb dX4_isAlarmed_4 rfl (lv_at hl 1 rfl) ?_
  refine lv_aload_n hx hb dX4_isAlarmed_5 rfl (lv_at hl 2 rfl) ?_
  refine va_get (D := (dC, dI)) (ci := 4) (v := .int (nI ma)) (C := RX4) (T := TX4) (N := 17) hx hb hts hin_4 hown hK hP 0 rfl rfl 15 (by decide) hf_88 (fun _ h9 => h9) rfl dX4_isAlarmed_6 ?_
  refine lv_icmp_ge (tgt := 38) hx hb dX4_isAlarmed_9 (by decide) (fun c_0 => ?_) (fun c_0 => ?_)
  · have d_0 := (nI_leI (a := ma) (b := i) (by omega) (by omega)).mp c_0
    have ei_i : i = ma := by omega
    refine lv_iload_n hx hb dX4_isAlarmed_38 rfl (lv_at hl 0 rfl) ?_
    exact W.zret (v := zb (al_has al x i)) hx hb hr (by exact zb_nar _) (zq_qi (by first | with_reducible rfl | simp [d_0, ei_i]) hP hK hD hS) hS.2.2 dX4_isAlarmed_39
  · have d_0 := Nat.not_le.mp (fun h => c_0 ((nI_leI (a := ma) (b := i) (by omega) (by omega)).mpr h))
    refine lv_iload_n hx hb dX4_isAlarmed_12 rfl (lv_at hl 0 rfl) ?_
    refine lv_if_ne (tgt := 26) hx hb dX4_isAlarmed_13 (by decide) (fun c_1 => ?_) (fun c_1 => ?_)
    · have d_1 := zb_ne c_1
      refine lv_iconst (v := 1) hx hb dX4_isAlarmed_26 (by decide) ?_
      refine lv_goto (tgt := 31) hx hb dX4_isAlarmed_27 (by decide) ?_
      refine lv_istore_n (lv' := [(2, .int 1), (3, .int (nI i)), (0, .ref (b 0)), (1, .int x)]) hx hb dX4_isAlarmed_31 rfl hl (by decide) rfl (fun ls hl => ?_)
      refine lv_iinc (v := nI (i + 1)) (lv' := [(3, .int (nI (i + 1))), (2, .int 1), (0, .ref (b 0)), (1, .int x)]) hx hb dX4_isAlarmed_32 hl (k := 1) rfl (nI_add _ 1) (by decide) rfl (fun ls hl => ?_)
      refine lv_goto (tgt := 4) hx hb dX4_isAlarmed_35 (by decide) ?_
      have e_2 : (zb (al_has al x (i + 1))) = 1 := by simp [al_has, zb, d_0, d_1]
      exact ih_i _ _ _ (by omega) ⟨(by (try rw [e_2]); exact hP), (by (try rw [e_2]); exact hD), hS, (by (try rw [e_2]); exact lv_sub hl [1, 0, 2, 3] rfl)⟩
    · have d_1 := zb_eq c_1
      refine lv_aload_n hx hb dX4_isAlarmed_16 rfl (lv_at hl 2 rfl) ?_
      refine va_get (D := (dC, dI)) (ci := 4) (v := .ref (b 11)) (C := RX4) (T := TX4) (N := 17) hx hb hts hin_4 hown hK hP 0 rfl rfl 16 (by decide) hf_42 (fun _ h9 => h9) rfl dX4_isAlarmed_17 ?_
      refine lv_iload_n hx hb dX4_isAlarmed_20 rfl (lv_at hl 1 rfl) ?_
      refine zq_iald hx hb hK hP 11 0 rfl rfl (j := i) (by omega) (by decide) dX4_isAlarmed_21 ?_
      refine lv_iload_n hx hb dX4_isAlarmed_22 rfl (lv_at hl 3 rfl) ?_
      refine lv_icmp_ne (tgt := 30) hx hb dX4_isAlarmed_23 (by decide) (fun c_3 => ?_) (fun c_3 => ?_)
      · refine lv_iconst (v := 0) hx hb dX4_isAlarmed_30 (by decide) ?_
        refine lv_istore_n (lv' := [(2, .int 0), (3, .int (nI i)), (0, .ref (b 0)), (1, .int x)]) hx hb dX4_isAlarmed_31 rfl hl (by decide) rfl (fun ls hl => ?_)
        refine lv_iinc (v := nI (i + 1)) (lv' := [(3, .int (nI (i + 1))), (2, .int 0), (0, .ref (b 0)), (1, .int x)]) hx hb dX4_isAlarmed_32 hl (k := 1) rfl (nI_add _ 1) (by decide) rfl (fun ls hl => ?_)
        refine lv_goto (tgt := 4) hx hb dX4_isAlarmed_35 (by decide) ?_
        have e_4 : (zb (al_has al x (i + 1))) = 0 := by simp [al_has, zb, d_0, d_1, c_3]
        exact ih_i _ _ _ (by omega) ⟨(by (try rw [e_4]); exact hP), (by (try rw [e_4]); exact hD), hS, (by (try rw [e_4]); exact lv_sub hl [1, 0, 2, 3] rfl)⟩
      · refine lv_iconst (v := 1) hx hb dX4_isAlarmed_26 (by decide) ?_
        refine lv_goto (tgt := 31) hx hb dX4_isAlarmed_27 (by decide) ?_
        refine lv_istore_n (lv' := [(2, .int 1), (3, .int (nI i)), (0, .ref (b 0)), (1, .int x)]) hx hb dX4_isAlarmed_31 rfl hl (by decide) rfl (fun ls hl => ?_)
        refine lv_iinc (v := nI (i + 1)) (lv' := [(3, .int (nI (i + 1))), (2, .int 1), (0, .ref (b 0)), (1, .int x)]) hx hb dX4_isAlarmed_32 hl (k := 1) rfl (nI_add _ 1) (by decide) rfl (fun ls hl => ?_)
        refine lv_goto (tgt := 4) hx hb dX4_isAlarmed_35 (by decide) ?_
        have e_5 : (zb (al_has al x (i + 1))) = 1 := by simp [al_has, zb, d_0, d_1, c_3]
        exact ih_i _ _ _ (by omega) ⟨(by (try rw [e_5]); exact hP), (by (try rw [e_5]); exact hD), hS, (by (try rw [e_5]); exact lv_sub hl [1, 0, 2, 3] rfl)⟩

set_option maxHeartbeats 4000000 in
set_option maxRecDepth 100000 in
theorem c_X4_begins (l : Launch) (dC : Nat → ClassId) (dI : Nat → Nat → Nat) (b : Nat → Nat) (cI cZ cD : ClassId) (mt mh : Int32) (ki pl tu le : Nat → Int32) (ch ca : Nat → UInt64) (N M mb ma : Nat) (wa la si bo al : Nat → Int32) (hN : N ≤ 40) (hM : M ≤ 30) (hmb : mb ≤ 30) (hma : ma ≤ 60) (x : Int32) (bb : Bool) (hroom : bb = true → al_has al x ma = false → ma < 60) (sz : Nat) : zq_Mi l yX4_begins wsX4_begins ({ frames := 1, cells := 0, slots := 0, locals := 23 } : Room) (dC, dI) (zq_T cI cZ cD) [.ref (b 0), .int x, .int (zb bb)] (wMo b cI cZ cD mt mh (nI N) ki pl tu le ch ca (nI M) wa la si (nI mb) bo (nI ma) al) (nI (bg_n bb (al_has al x ma))) (wMo b cI cZ cD mt mh (nI N) ki pl tu le ch ca (nI M) wa la si (nI mb) bo (nI (ma + bg_n bb (al_has al x ma))) (bg_a bb (al_has al x ma) al ma x)) sz := by
  refine Met.ofW (cc := cX4_begins) (maxL := 3) (ret := (some .int)) (by decide) rfl ?_
  intro p e s m args below meth c s₁ B hml hv
  obtain ⟨rfl, hsz, hP, hK, hD0⟩ := hv
  have hx := B.exec
  have hb := B.bytes
  have hr := B.returns
  have hts := atoms_spec (ws := wsX4_begins) B.pre
  have hown : s.vm.findClass RX4 = some m.cls := findClass_of_methodNamed B.named
  have hlocks := B.notSynchronized
  subst hsz
  have hD := hD0.self (sz := s.heap.size)
  generalize hAe : va_A (wMo b cI cZ cD mt mh (nI N) ki pl tu le ch ca (nI M) wa la si (nI mb) bo (nI ma) al) s.heap.size = A at hD ⊢
  have hA : ∀ q : Nat, s.heap.size ≤ q → A q := fun q h => by rw [← hAe]; exact Or.inr h
  have hS : va_S A s.heap s.heap [] := va_S.rf
  have hP : va_P (dC, dI) vwCl (wMo b cI cZ cD mt mh (nI N) ki pl tu le ch ca (nI M) wa la si (nI mb) bo (nI ma) al) s.heap := hP
  have hl := lv_entry ([.ref (b 0), .int x, .int (zb bb)]) (n := 3) (Nat.le_of_ble_eq_true rfl)
  rw [lg_entry_eq]
  generalize (lg_sl ([.ref (b 0), .int x, .int (zb bb)]) ++ List.replicate (3 - (lg_sl ([.ref (b 0), .int x, .int (zb bb)])).length) Slot.unset).toArray = ls at hl ⊢
  have hl : lv_has ls 3 [(0, .ref (b 0)), (1, .int x), (2, .int (zb bb))] := hl
  have hf_42 := hts (.fieldLink RX4 42 "LampRoomModel" "alarm" "[I") (by decide +kernel)
  have hin_4 : ∀ w ∈ wsX40, w ∈ wsX4_begins := by decide +kernel
  have hf_88 := hts (.fieldLink RX4 88 "LampRoomModel" "alarms" "I") (by decide +kernel)
  refine lv_iload_n hx hb dX4_begins_0 rfl (lv_at hl 2 rfl) ?_
  refine lv_if_eq (tgt := 12) hx hb dX4_begins_1 (by decide) (fun c_0 => ?_) (fun c_0 => ?_)
  · have d_0 := zb_eq c_0
    refine lv_iconst (v := 0) hx hb dX4_begins_12 (by decide) ?_
    have e_1 : (nI (ma + bg_n bb (al_has al x ma))) = (nI ma) := by first | with_reducible rfl | simp [bg_n, bg_a, nI_0, zq_nI1, d_0]
    have e_2 : (bg_a bb (al_has al x ma) al ma x) = al := by first | with_reducible rfl | simp [bg_n, bg_a, nI_0, zq_nI1, d_0]
    exact W.iret (v := 0) hx hb hr (zq_qi (by first | with_reducible rfl | simp [bg_n, bg_a, nI_0, zq_nI1, d_0]) (by rw [e_1, e_2]; exact hP) hK (by rw [e_1, e_2]; exact hD) hS) hS.2.2 dX4_begins_13
  · have d_0 := zb_ne c_0
    refine lv_aload_n hx hb dX4_begins_4 rfl (lv_at hl 0 rfl) ?_
    refine lv_iload_n hx hb dX4_begins_5 rfl (lv_at hl 1 rfl) ?_
    refine zq_cVi (As := [.int x]) (rest := []) (wc := (wMo b cI cZ cD mt mh (nI N) ki pl tu le ch ca (nI M) wa la si (nI mb) bo (nI ma) al)) (w1 := (wMo b cI cZ cD mt mh (nI N) ki pl tu le ch ca (nI M) wa la si (nI mb) bo (nI ma) al)) (wr := ([] : va_W)) (ws' := (wMo b cI cZ cD mt mh (nI N) ki pl tu le ch ca (nI M) wa la si (nI mb) bo (nI ma) al)) ⟨hx, hb, hml, hown, hts⟩ (c_X4_isAlarmed l dC dI b cI cZ cD mt mh ki pl tu le ch ca N M mb ma wa la si bo al (by omega) (by omega) (by omega) (by omega) x s.heap.size) (cwV 1 hts gX4_begins_X4_isAlarmed rfl rfl rfl (by decide +kernel) ⟨Nat.le_of_ble_eq_true rfl, Nat.le_of_ble_eq_true rfl⟩) hK hP hD hS hA [0, 1, 2, 3, 4, 5, 6, 7, 8, 9, 10, 11] [] [0, 1, 2, 3, 4, 5, 6, 7, 8, 9, 10, 11] rfl rfl rfl rfl (by decide) rfl rfl (ci := 4) rfl 0 rfl rfl hl.1 rfl (Nat.le_of_ble_eq_true rfl) dX4_begins_6 ⟨Nat.zero_le _, Nat.zero_le _⟩ (fun H locs hP hD hS => ?_)
    refine lv_if_eq (tgt := 14) hx hb dX4_begins_9 (by decide) (fun c_3 => ?_) (fun c_3 => ?_)
    · have d_3 := zb_eq c_3
      have hr60 : ma < 60 := hroom d_0 d_3
      refine lv_aload_n hx hb dX4_begins_14 rfl (lv_at hl 0 rfl) ?_
      refine va_get (D := (dC, dI)) (ci := 4) (v := .ref (b 11)) (C := RX4) (T := TX4) (N := 17) hx hb hts hin_4 hown hK hP 0 rfl rfl 16 (by decide) hf_42 (fun _ h9 => h9) rfl dX4_begins_15 ?_
      refine lv_aload_n hx hb dX4_begins_18 rfl (lv_at hl 0 rfl) ?_
      refine va_get (D := (dC, dI)) (ci := 4) (v := .int (nI ma)) (C := RX4) (T := TX4) (N := 17) hx hb hts hin_4 hown hK hP 0 rfl rfl 15 (by decide) hf_88 (fun _ h9 => h9) rfl dX4_begins_19 ?_
      refine lv_iload_n hx hb dX4_begins_22 rfl (lv_at hl 1 rfl) ?_
      refine zq_iast hx hb hK hP hD hS 11 0 rfl rfl (j := ma) (by omega) (by decide) (wMo b cI cZ cD mt mh (nI N) ki pl tu le ch ca (nI M) wa la si (nI mb) bo (nI ma) (upd al ma x)) rfl dX4_begins_23 (fun H locs hP hD hS => ?_)
      refine lv_aload_n hx hb dX4_begins_24 rfl (lv_at hl 0 rfl) ?_
      refine lv_dup hx hb dX4_begins_25 rfl ?_
      refine va_get (D := (dC, dI)) (ci := 4) (v := .int (nI ma)) (C := RX4) (T := TX4) (N := 17) hx hb hts hin_4 hown hK hP 0 rfl rfl 15 (by decide) hf_88 (fun _ h9 => h9) rfl dX4_begins_26 ?_
      refine lv_iconst (v := 1) hx hb dX4_begins_29 (by decide) ?_
      refine t_iadd hx hb dX4_begins_30 (v := nI (ma + 1)) (nI_1 _) ?_
      refine va_put (D := (dC, dI)) (ci := 4) (v := .int (nI (ma + 1))) (ty := .int) (C := RX4) (T := TX4) (N := 17) hx hb hts hin_4 tyX4 tyX4_ok nmX4 hown hK hP hD hS 0 rfl rfl 15 (by decide) hf_88 (fun _ h9 => h9) rfl (by decide +kernel) rfl rfl (Nat.le_of_ble_eq_true rfl) dX4_begins_31 (fun H locs hP hD hS => ?_)
      have hP : va_P (dC, dI) vwCl (wMo b cI cZ cD mt mh (nI N) ki pl tu le ch ca (nI M) wa la si (nI mb) bo (nI (ma + 1)) (upd al ma x)) H := hP
      have hD : va_D A (wMo b cI cZ cD mt mh (nI N) ki pl tu le ch ca (nI M) wa la si (nI mb) bo (nI (ma + 1)) (upd al ma x)) := hD
      refine lv_iconst (v := 1) hx hb dX4_begins_34 (by decide) ?_
      have e_4 : (nI (ma + bg_n bb (al_has al x ma))) = (nI (ma + 1)) := by first | with_reducible rfl | simp [bg_n, bg_a, nI_0, zq_nI1, d_0, d_3]
      have e_5 : (bg_a bb (al_has al x ma) al ma x) = (upd al ma x) := by first | with_reducible rfl | simp [bg_n, bg_a, nI_0, zq_nI1, d_0, d_3]
      exact W.iret (v := 1) hx hb hr (zq_qi (by first | with_reducible rfl | simp [bg_n, bg_a, nI_0, zq_nI1, d_0, d_3]) (by rw [e_4, e_5]; exact hP) hK (by rw [e_4, e_5]; exact hD) hS) hS.2.2 dX4_begins_35
    · have d_3 := zb_ne c_3
      refine lv_iconst (v := 0) hx hb dX4_begins_12 (by decide) ?_
      have e_6 : (nI (ma + bg_n bb (al_has al x ma))) = (nI ma) := by first | with_reducible rfl | simp [bg_n, bg_a, nI_0, zq_nI1, d_0, d_3]
      have e_7 : (bg_a bb (al_has al x ma) al ma x) = al := by first | with_reducible rfl | simp [bg_n, bg_a, nI_0, zq_nI1, d_0, d_3]
      exact W.iret (v := 0) hx hb hr (zq_qi (by first | with_reducible rfl | simp [bg_n, bg_a, nI_0, zq_nI1, d_0, d_3]) (by rw [e_6, e_7]; exact hP) hK (by rw [e_6, e_7]; exact hD) hS) hS.2.2 dX4_begins_13
