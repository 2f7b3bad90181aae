set_option maxHeartbeats 4000000 in
set_option maxRecDepth 100000 in
theorem c_X4_addLamp_bad (l : Launch) (dC : Nat → ClassId) (dI : Nat → Nat → Nat) (b : Nat → Nat) (cI cZ cD : ClassId) (mt mh : Int32) (ki pl tu le : Nat → Int32) (ch ca : Nat → UInt64) (N M mb ma : Nat) (wa la si bo al : Nat → Int32) (hN : N ≤ 40) (hM : M ≤ 30) (hmb : mb ≤ 30) (hma : ma ≤ 60) (k : Int32) (hk : in_b k 0 2 = false) (sz : Nat) : zq_Mi l yX4_addLamp wsX4_addLamp ({ frames := 1, cells := 0, slots := 0, locals := 22 } : Room) (dC, dI) (zq_T cI cZ cD) [.ref (b 0), .int k] (wMo b cI cZ cD mt mh (nI N) ki pl tu le ch ca (nI M) wa la si (nI mb) bo (nI ma) al) 0 (wMo b cI cZ cD 1 mh (nI N) ki pl tu le ch ca (nI M) wa la si (nI mb) bo (nI ma) al) sz := by
  refine Met.ofW (cc := cX4_addLamp) (maxL := 2) (ret := (some .int)) (by decide) rfl ?_
  intro p e s m args below meth c s₁ B hml hv
  obtain ⟨rfl, hsz, hP, hK, hD0⟩ := hv
  have hx := B.exec
  have hb := B.bytes
  have hr := B.returns
  have hts := atoms_spec (ws := wsX4_addLamp) B.pre
  have hown : s.vm.findClass RX4 = some m.cls := findClass_of_methodNamed B.named
  have hlocks := B.notSynchronized
  subst hsz
  have hD := hD0.self (sz := s.heap.size)
  generalize hAe : va_A (wMo b cI cZ cD mt mh (nI N) ki pl tu le ch ca (nI M) wa la si (nI mb) bo (nI ma) al) s.heap.size = A at hD ⊢
  have hA : ∀ q : Nat, s.heap.size ≤ q → A q := fun q h => by rw [← hAe]; exact Or.inr h
  have hS : va_S A s.heap s.heap [] := va_S.rf
  have hP : va_P (dC, dI) vwCl (wMo b cI cZ cD mt mh (nI N) ki pl tu le ch ca (nI M) wa la si (nI mb) bo (nI ma) al) s.heap := hP
  have hl := lv_entry ([.ref (b 0), .int k]) (n := 2) (Nat.le_of_ble_eq_true rfl)
  rw [lg_entry_eq]
  generalize (lg_sl ([.ref (b 0), .int k]) ++ List.replicate (2 - (lg_sl ([.ref (b 0), .int k])).length) Slot.unset).toArray = ls at hl ⊢
  have hl : lv_has ls 2 [(0, .ref (b 0)), (1, .int k)] := hl
  have hf_45 := hts (.fieldLink RX4 45 "LampRoomModel" "thrown" "I") (by decide +kernel)
  have hin_4 : ∀ w ∈ wsX40, w ∈ wsX4_addLamp := by decide +kernel
  refine lv_aload_n hx hb dX4_addLamp_0 rfl (lv_at hl 0 rfl) ?_
  refine lv_iload_n hx hb dX4_addLamp_1 rfl (lv_at hl 1 rfl) ?_
  refine lv_iconst (v := 0) hx hb dX4_addLamp_2 (by decide) ?_
  refine lv_iconst (v := 2) hx hb dX4_addLamp_3 (by decide) ?_
  refine zq_cSi (As := [.int k, .int 0, .int 2]) (rest := [.ref (b 0)]) ⟨hx, hb, hml, hown, hts⟩ (c_X4_in l k 0 2) (va_cwS 3 hts gX4_addLamp_X4_in rfl rfl rfl (by decide +kernel) ⟨Nat.le_of_ble_eq_true rfl, Nat.le_of_ble_eq_true rfl⟩) hP hS rfl hl.1 rfl (Nat.le_of_ble_eq_true rfl) dX4_addLamp_4 ⟨Nat.zero_le _, Nat.zero_le _⟩ (fun H locs hP hS => ?_)
  refine lv_if_ne (tgt := 14) hx hb dX4_addLamp_7 (by decide) (fun c_0 => ?_) (fun c_0 => ?_)
  · have d_0 := zb_ne c_0
    exact absurd hk (by rw [d_0]; decide)
  · have d_0 := zb_eq c_0
    refine lv_iconst (v := 1) hx hb dX4_addLamp_10 (by decide) ?_
    refine lv_goto (tgt := 28) hx hb dX4_addLamp_11 (by decide) ?_
    refine va_put (D := (dC, dI)) (ci := 4) (v := .int 1) (ty := .int) (C := RX4) (T := TX4) (N := 17) hx hb hts hin_4 tyX4 tyX4_ok nmX4 hown hK hP hD hS 0 rfl rfl 0 (by decide) hf_45 (fun _ h9 => h9) rfl (by decide +kernel) rfl rfl (Nat.le_of_ble_eq_true rfl) dX4_addLamp_28 (fun H locs hP hD hS => ?_)
    have hP : va_P (dC, dI) vwCl (wMo b cI cZ cD 1 mh (nI N) ki pl tu le ch ca (nI M) wa la si (nI mb) bo (nI ma) al) H := hP
    have hD : va_D A (wMo b cI cZ cD 1 mh (nI N) ki pl tu le ch ca (nI M) wa la si (nI mb) bo (nI ma) al) := hD
    refine lv_aload_n hx hb dX4_addLamp_31 rfl (lv_at hl 0 rfl) ?_
    refine va_get (D := (dC, dI)) (ci := 4) (v := .int 1) (C := RX4) (T := TX4) (N := 17) hx hb hts hin_4 hown hK hP 0 rfl rfl 0 (by decide) hf_45 (fun _ h9 => h9) rfl dX4_addLamp_32 ?_
    refine lv_if_le (tgt := 40) hx hb dX4_addLamp_35 (by decide) (fun c => absurd c (by decide)) (fun _ => ?_)
    refine lv_iconst (v := 0) hx hb dX4_addLamp_38 (by decide) ?_
    exact W.iret (v := 0) hx hb hr (zq_qi rfl hP hK hD hS) hS.2.2 dX4_addLamp_39

set_option maxHeartbeats 4000000 in
set_option maxRecDepth 100000 in
theorem c_X4_addLamp_full (l : Launch) (dC : Nat → ClassId) (dI : Nat → Nat → Nat) (b : Nat → Nat) (cI cZ cD : ClassId) (mt mh : Int32) (ki pl tu le : Nat → Int32) (ch ca : Nat → UInt64) (N M mb ma : Nat) (wa la si bo al : Nat → Int32) (hN : N ≤ 40) (hM : M ≤ 30) (hmb : mb ≤ 30) (hma : ma ≤ 60) (k : Int32) (hk : in_b k 0 2 = true) (hf : N = 40) (sz : Nat) : zq_Mi l yX4_addLamp wsX4_addLamp ({ frames := 1, cells := 0, slots := 0, locals := 22 } : Room) (dC, dI) (zq_T cI cZ cD) [.ref (b 0), .int k] (wMo b cI cZ cD mt mh (nI N) ki pl tu le ch ca (nI M) wa la si (nI mb) bo (nI ma) al) 0 (wMo b cI cZ cD 2 mh (nI N) ki pl tu le ch ca (nI M) wa la si (nI mb) bo (nI ma) al) sz := by
  refine Met.ofW (cc := cX4_addLamp) (maxL := 2) (ret := (some .int)) (by decide) rfl ?_
  intro p e s m args below meth c s₁ B hml hv
  obtain ⟨rfl, hsz, hP, hK, hD0⟩ := hv
  have hx := B.exec
  have hb := B.bytes
  have hr := B.returns
  have hts := atoms_spec (ws := wsX4_addLamp) B.pre
  have hown : s.vm.findClass RX4 = some m.cls := findClass_of_methodNamed B.named
  have hlocks := B.notSynchronized
  subst hsz
  have hD := hD0.self (sz := s.heap.size)
  generalize hAe : va_A (wMo b cI cZ cD mt mh (nI N) ki pl tu le ch ca (nI M) wa la si (nI mb) bo (nI ma) al) s.heap.size = A at hD ⊢
  have hA : ∀ q : Nat, s.heap.size ≤ q → A q := fun q h => by rw [← hAe]; exact Or.inr h
  have hS : va_S A s.heap s.heap [] := va_S.rf
  have hP : va_P (dC, dI) vwCl (wMo b cI cZ cD mt mh (nI N) ki pl tu le ch ca (nI M) wa la si (nI mb) bo (nI ma) al) s.heap := hP
  have hl := lv_entry ([.ref (b 0), .int k]) (n := 2) (Nat.le_of_ble_eq_true rfl)
  rw [lg_entry_eq]
  generalize (lg_sl ([.ref (b 0), .int k]) ++ List.replicate (2 - (lg_sl ([.ref (b 0), .int k])).length) Slot.unset).toArray = ls at hl ⊢
  have hl : lv_has ls 2 [(0, .ref (b 0)), (1, .int k)] := hl
  have hf_49 := hts (.fieldLink RX4 49 "LampRoomModel" "lamps" "I") (by decide +kernel)
  have hin_4 : ∀ w ∈ wsX40, w ∈ wsX4_addLamp := by decide +kernel
  have hf_45 := hts (.fieldLink RX4 45 "LampRoomModel" "thrown" "I") (by decide +kernel)
  refine lv_aload_n hx hb dX4_addLamp_0 rfl (lv_at hl 0 rfl) ?_
  refine lv_iload_n hx hb dX4_addLamp_1 rfl (lv_at hl 1 rfl) ?_
  refine lv_iconst (v := 0) hx hb dX4_addLamp_2 (by decide) ?_
  refine lv_iconst (v := 2) hx hb dX4_addLamp_3 (by decide) ?_
  refine zq_cSi (As := [.int k, .int 0, .int 2]) (rest := [.ref (b 0)]) ⟨hx, hb, hml, hown, hts⟩ (c_X4_in l k 0 2) (va_cwS 3 hts gX4_addLamp_X4_in rfl rfl rfl (by decide +kernel) ⟨Nat.le_of_ble_eq_true rfl, Nat.le_of_ble_eq_true rfl⟩) hP hS rfl hl.1 rfl (Nat.le_of_ble_eq_true rfl) dX4_addLamp_4 ⟨Nat.zero_le _, Nat.zero_le _⟩ (fun H locs hP hS => ?_)
  refine lv_if_ne (tgt := 14) hx hb dX4_addLamp_7 (by decide) (fun c_0 => ?_) (fun c_0 => ?_)
  · have d_0 := zb_ne c_0
    refine lv_aload_n hx hb dX4_addLamp_14 rfl (lv_at hl 0 rfl) ?_
    refine va_get (D := (dC, dI)) (ci := 4) (v := .int (nI N)) (C := RX4) (T := TX4) (N := 17) hx hb hts hin_4 hown hK hP 0 rfl rfl 2 (by decide) hf_49 (fun _ h9 => h9) rfl dX4_addLamp_15 ?_
    refine lv_bipush (v := 40) hx hb dX4_addLamp_18 (by decide) ?_
    refine lv_icmp_ne (tgt := 27) hx hb dX4_addLamp_20 (by decide) (fun c_1 => ?_) (fun c_1 => ?_)
    · have d_1 := (fun h => c_1 ((nI_eq (a := N) (b := 40) (by omega) (by omega)).mpr h) : ¬ N = 40)
      exact absurd hf d_1
    · have d_1 := (nI_eq (a := N) (b := 40) (by omega) (by omega)).mp c_1
      refine lv_iconst (v := 2) hx hb dX4_addLamp_23 (by decide) ?_
      refine lv_goto (tgt := 28) hx hb dX4_addLamp_24 (by decide) ?_
      refine va_put (D := (dC, dI)) (ci := 4) (v := .int 2) (ty := .int) (C := RX4) (T := TX4) (N := 17) hx hb hts hin_4 tyX4 tyX4_ok nmX4 hown hK hP hD hS 0 rfl rfl 0 (by decide) hf_45 (fun _ h9 => h9) rfl (by decide +kernel) rfl rfl (Nat.le_of_ble_eq_true rfl) dX4_addLamp_28 (fun H locs hP hD hS => ?_)
      have hP : va_P (dC, dI) vwCl (wMo b cI cZ cD 2 mh (nI N) ki pl tu le ch ca (nI M) wa la si (nI mb) bo (nI ma) al) H := hP
      have hD : va_D A (wMo b cI cZ cD 2 mh (nI N) ki pl tu le ch ca (nI M) wa la si (nI mb) bo (nI ma) al) := hD
      refine lv_aload_n hx hb dX4_addLamp_31 rfl (lv_at hl 0 rfl) ?_
      refine va_get (D := (dC, dI)) (ci := 4) (v := .int 2) (C := RX4) (T := TX4) (N := 17) hx hb hts hin_4 hown hK hP 0 rfl rfl 0 (by decide) hf_45 (fun _ h9 => h9) rfl dX4_addLamp_32 ?_
      refine lv_if_le (tgt := 40) hx hb dX4_addLamp_35 (by decide) (fun c => absurd c (by decide)) (fun _ => ?_)
      refine lv_iconst (v := 0) hx hb dX4_addLamp_38 (by decide) ?_
      exact W.iret (v := 0) hx hb hr (zq_qi rfl hP hK hD hS) hS.2.2 dX4_addLamp_39
  · have d_0 := zb_eq c_0
    exact absurd hk (by rw [d_0]; decide)

set_option maxHeartbeats 4000000 in
set_option maxRecDepth 100000 in
theorem c_X4_addLamp_ok (l : Launch) (dC : Nat → ClassId) (dI : Nat → Nat → Nat) (b : Nat → Nat) (cI cZ cD : ClassId) (mt mh : Int32) (ki pl tu le : Nat → Int32) (ch ca : Nat → UInt64) (N M mb ma : Nat) (wa la si bo al : Nat → Int32) (hN : N ≤ 40) (hM : M ≤ 30) (hmb : mb ≤ 30) (hma : ma ≤ 60) (k : Int32) (hk : in_b k 0 2 = true) (hf : N < 40) (sz : Nat) : zq_Mi l yX4_addLamp wsX4_addLamp ({ frames := 1, cells := 0, slots := 0, locals := 22 } : Room) (dC, dI) (zq_T cI cZ cD) [.ref (b 0), .int k] (wMo b cI cZ cD mt mh (nI N) ki pl tu le ch ca (nI M) wa la si (nI mb) bo (nI ma) al) (nI N) (wMo b cI cZ cD 0 mh (nI (N + 1)) (upd ki N k) (upd pl N 0) tu le (vf_upd ch N (la_new k)) (vf_upd ca N (la_new k)) (nI M) wa la si (nI mb) bo (nI ma) al) sz := by
  refine Met.ofW (cc := cX4_addLamp) (maxL := 2) (ret := (some .int)) (by decide) rfl ?_
  intro p e s m args below meth c s₁ B hml hv
  obtain ⟨rfl, hsz, hP, hK, hD0⟩ := hv
  have hx := B.exec
  have hb := B.bytes
  have hr := B.returns
  have hts := atoms_spec (ws := wsX4_addLamp) B.pre
  have hown : s.vm.findClass RX4 = some m.cls := findClass_of_methodNamed B.named
  have hlocks := B.notSynchronized
  subst hsz
  have hD := hD0.self (sz := s.heap.size)
  generalize hAe : va_A (wMo b cI cZ cD mt mh (nI N) ki pl tu le ch ca (nI M) wa la si (nI mb) bo (nI ma) al) s.heap.size = A at hD ⊢
  have hA : ∀ q : Nat, s.heap.size ≤ q → A q := fun q h => by rw [← hAe]; exact Or.inr h
  have hS : va_S A s.heap s.heap [] := va_S.rf
  have hP : va_P (dC, dI) vwCl (wMo b cI cZ cD mt mh (nI N) ki pl tu le ch ca (nI M) wa la si (nI mb) bo (nI ma) al) s.heap := hP
  have hl := lv_entry ([.ref (b 0), .int k]) (n := 2) (Nat.le_of_ble_eq_true rfl)
  rw [lg_entry_eq]
  generalize (lg_sl ([.ref (b 0), .int k]) ++ List.replicate (2 - (lg_sl ([.ref (b 0), .int k])).length) Slot.unset).toArray = ls at hl ⊢
  have hl : lv_has ls 2 [(0, .ref (b 0)), (1, .int k)] := hl
  have hf_49 := hts (.fieldLink RX4 49 "LampRoomModel" "lamps" "I") (by decide +kernel)
  have hin_4 : ∀ w ∈ wsX40, w ∈ wsX4_addLamp := by decide +kernel
  have hf_45 := hts (.fieldLink RX4 45 "LampRoomModel" "thrown" "I") (by decide +kernel)
  have hf_7 := hts (.fieldLink RX4 7 "LampRoomModel" "kindOf" "[I") (by decide +kernel)
  have hf_13 := hts (.fieldLink RX4 13 "LampRoomModel" "place" "[I") (by decide +kernel)
  have hf_23 := hts (.fieldLink RX4 23 "LampRoomModel" "charge" "[D") (by decide +kernel)
  have hf_27 := hts (.fieldLink RX4 27 "LampRoomModel" "capacity" "[D") (by decide +kernel)
  refine lv_aload_n hx hb dX4_addLamp_0 rfl (lv_at hl 0 rfl) ?_
  refine lv_iload_n hx hb dX4_addLamp_1 rfl (lv_at hl 1 rfl) ?_
  refine lv_iconst (v := 0) hx hb dX4_addLamp_2 (by decide) ?_
  refine lv_iconst (v := 2) hx hb dX4_addLamp_3 (by decide) ?_
  refine zq_cSi (As := [.int k, .int 0, .int 2]) (rest := [.ref (b 0)]) ⟨hx, hb, hml, hown, hts⟩ (c_X4_in l k 0 2) (va_cwS 3 hts gX4_addLamp_X4_in rfl rfl rfl (by decide +kernel) ⟨Nat.le_of_ble_eq_true rfl, Nat.le_of_ble_eq_true rfl⟩) hP hS rfl hl.1 rfl (Nat.le_of_ble_eq_true rfl) dX4_addLamp_4 ⟨Nat.zero_le _, Nat.zero_le _⟩ (fun H locs hP hS => ?_)
  refine lv_if_ne (tgt := 14) hx hb dX4_addLamp_7 (by decide) (fun c_0 => ?_) (fun c_0 => ?_)
  · have d_0 := zb_ne c_0
    refine lv_aload_n hx hb dX4_addLamp_14 rfl (lv_at hl 0 rfl) ?_
    refine va_get (D := (dC, dI)) (ci := 4) (v := .int (nI N)) (C := RX4) (T := TX4) (N := 17) hx hb hts hin_4 hown hK hP 0 rfl rfl 2 (by decide) hf_49 (fun _ h9 => h9) rfl dX4_addLamp_15 ?_
    refine lv_bipush (v := 40) hx hb dX4_addLamp_18 (by decide) ?_
    refine lv_icmp_ne (tgt := 27) hx hb dX4_addLamp_20 (by decide) (fun c_1 => ?_) (fun c_1 => ?_)
    · have d_1 := (fun h => c_1 ((nI_eq (a := N) (b := 40) (by omega) (by omega)).mpr h) : ¬ N = 40)
      refine lv_iconst (v := 0) hx hb dX4_addLamp_27 (by decide) ?_
      refine va_put (D := (dC, dI)) (ci := 4) (v := .int 0) (ty := .int) (C := RX4) (T := TX4) (N := 17) hx hb hts hin_4 tyX4 tyX4_ok nmX4 hown hK hP hD hS 0 rfl rfl 0 (by decide) hf_45 (fun _ h9 => h9) rfl (by decide +kernel) rfl rfl (Nat.le_of_ble_eq_true rfl) dX4_addLamp_28 (fun H locs hP hD hS => ?_)
      have hP : va_P (dC, dI) vwCl (wMo b cI cZ cD 0 mh (nI N) ki pl tu le ch ca (nI M) wa la si (nI mb) bo (nI ma) al) H := hP
      have hD : va_D A (wMo b cI cZ cD 0 mh (nI N) ki pl tu le ch ca (nI M) wa la si (nI mb) bo (nI ma) al) := hD
      refine lv_aload_n hx hb dX4_addLamp_31 rfl (lv_at hl 0 rfl) ?_
      refine va_get (D := (dC, dI)) (ci := 4) (v := .int 0) (C := RX4) (T := TX4) (N := 17) hx hb hts hin_4 hown hK hP 0 rfl rfl 0 (by decide) hf_45 (fun _ h9 => h9) rfl dX4_addLamp_32 ?_
      refine lv_if_le (tgt := 40) hx hb dX4_addLamp_35 (by decide) (fun _ => ?_) (fun c => absurd c (by decide))
      refine lv_aload_n hx hb dX4_addLamp_40 rfl (lv_at hl 0 rfl) ?_
      refine va_get (D := (dC, dI)) (ci := 4) (v := .ref (b 1)) (C := RX4) (T := TX4) (N := 17) hx hb hts hin_4 hown hK hP 0 rfl rfl 3 (by decide) hf_7 (fun _ h9 => h9) rfl dX4_addLamp_41 ?_
      refine lv_aload_n hx hb dX4_addLamp_44 rfl (lv_at hl 0 rfl) ?_
      refine va_get (D := (dC, dI)) (ci := 4) (v := .int (nI N)) (C := RX4) (T := TX4) (N := 17) hx hb hts hin_4 hown hK hP 0 rfl rfl 2 (by decide) hf_49 (fun _ h9 => h9) rfl dX4_addLamp_45 ?_
      refine lv_iload_n hx hb dX4_addLamp_48 rfl (lv_at hl 1 rfl) ?_
      refine zq_iast hx hb hK hP hD hS 1 0 rfl rfl (j := N) (by omega) (by decide) (wMo b cI cZ cD 0 mh (nI N) (upd ki N k) pl tu le ch ca (nI M) wa la si (nI mb) bo (nI ma) al) rfl dX4_addLamp_49 (fun H locs hP hD hS => ?_)
      refine lv_aload_n hx hb dX4_addLamp_50 rfl (lv_at hl 0 rfl) ?_
      refine va_get (D := (dC, dI)) (ci := 4) (v := .ref (b 2)) (C := RX4) (T := TX4) (N := 17) hx hb hts hin_4 hown hK hP 0 rfl rfl 4 (by decide) hf_13 (fun _ h9 => h9) rfl dX4_addLamp_51 ?_
      refine lv_aload_n hx hb dX4_addLamp_54 rfl (lv_at hl 0 rfl) ?_
      refine va_get (D := (dC, dI)) (ci := 4) (v := .int (nI N)) (C := RX4) (T := TX4) (N := 17) hx hb hts hin_4 hown hK hP 0 rfl rfl 2 (by decide) hf_49 (fun _ h9 => h9) rfl dX4_addLamp_55 ?_
      refine lv_iconst (v := 0) hx hb dX4_addLamp_58 (by decide) ?_
      refine zq_iast hx hb hK hP hD hS 2 0 rfl rfl (j := N) (by omega) (by decide) (wMo b cI cZ cD 0 mh (nI N) (upd ki N k) (upd pl N 0) tu le ch ca (nI M) wa la si (nI mb) bo (nI ma) al) rfl dX4_addLamp_59 (fun H locs hP hD hS => ?_)
      refine lv_aload_n hx hb dX4_addLamp_60 rfl (lv_at hl 0 rfl) ?_
      refine va_get (D := (dC, dI)) (ci := 4) (v := .ref (b 5)) (C := RX4) (T := TX4) (N := 17) hx hb hts hin_4 hown hK hP 0 rfl rfl 7 (by decide) hf_23 (fun _ h9 => h9) rfl dX4_addLamp_61 ?_
      refine lv_aload_n hx hb dX4_addLamp_64 rfl (lv_at hl 0 rfl) ?_
      refine va_get (D := (dC, dI)) (ci := 4) (v := .int (nI N)) (C := RX4) (T := TX4) (N := 17) hx hb hts hin_4 hown hK hP 0 rfl rfl 2 (by decide) hf_49 (fun _ h9 => h9) rfl dX4_addLamp_65 ?_
      refine lv_iload_n hx hb dX4_addLamp_68 rfl (lv_at hl 1 rfl) ?_
      refine zq_cSd (As := [.int k]) (rest := [.int (nI N), .ref (b 5)]) ⟨hx, hb, hml, hown, hts⟩ (c_X4_full l k) (va_cwS 1 hts gX4_addLamp_X4_full rfl rfl rfl (by decide +kernel) ⟨Nat.le_of_ble_eq_true rfl, Nat.le_of_ble_eq_true rfl⟩) hP hS rfl hl.1 rfl (Nat.le_of_ble_eq_true rfl) dX4_addLamp_69 ⟨Nat.zero_le _, Nat.zero_le _⟩ (fun H locs hP hS => ?_)
      refine zq_dast hx hb hK hP hD hS 5 2 rfl rfl (j := N) (by omega) (by decide) (wMo b cI cZ cD 0 mh (nI N) (upd ki N k) (upd pl N 0) tu le (vf_upd ch N (la_new k)) ca (nI M) wa la si (nI mb) bo (nI ma) al) rfl dX4_addLamp_72 (fun H locs hP hD hS => ?_)
      refine lv_aload_n hx hb dX4_addLamp_73 rfl (lv_at hl 0 rfl) ?_
      refine va_get (D := (dC, dI)) (ci := 4) (v := .ref (b 6)) (C := RX4) (T := TX4) (N := 17) hx hb hts hin_4 hown hK hP 0 rfl rfl 8 (by decide) hf_27 (fun _ h9 => h9) rfl dX4_addLamp_74 ?_
      refine lv_aload_n hx hb dX4_addLamp_77 rfl (lv_at hl 0 rfl) ?_
      refine va_get (D := (dC, dI)) (ci := 4) (v := .int (nI N)) (C := RX4) (T := TX4) (N := 17) hx hb hts hin_4 hown hK hP 0 rfl rfl 2 (by decide) hf_49 (fun _ h9 => h9) rfl dX4_addLamp_78 ?_
      refine lv_iload_n hx hb dX4_addLamp_81 rfl (lv_at hl 1 rfl) ?_
      refine zq_cSd (As := [.int k]) (rest := [.int (nI N), .ref (b 6)]) ⟨hx, hb, hml, hown, hts⟩ (c_X4_full l k) (va_cwS 1 hts gX4_addLamp_X4_full rfl rfl rfl (by decide +kernel) ⟨Nat.le_of_ble_eq_true rfl, Nat.le_of_ble_eq_true rfl⟩) hP hS rfl hl.1 rfl (Nat.le_of_ble_eq_true rfl) dX4_addLamp_82 ⟨Nat.zero_le _, Nat.zero_le _⟩ (fun H locs hP hS => ?_)
      refine zq_dast hx hb hK hP hD hS 6 2 rfl rfl (j := N) (by omega) (by decide) (wMo b cI cZ cD 0 mh (nI N) (upd ki N k) (upd pl N 0) tu le (vf_upd ch N (la_new k)) (vf_upd ca N (la_new k)) (nI M) wa la si (nI mb) bo (nI ma) al) rfl dX4_addLamp_85 (fun H locs hP hD hS => ?_)
      refine lv_aload_n hx hb dX4_addLamp_86 rfl (lv_at hl 0 rfl) ?_
      refine lv_dup hx hb dX4_addLamp_87 rfl ?_
      refine va_get (D := (dC, dI)) (ci := 4) (v := .int (nI N)) (C := RX4) (T := TX4) (N := 17) hx hb hts hin_4 hown hK hP 0 rfl rfl 2 (by decide) hf_49 (fun _ h9 => h9) rfl dX4_addLamp_88 ?_
      refine lv_iconst (v := 1) hx hb dX4_addLamp_91 (by decide) ?_
      refine t_iadd hx hb dX4_addLamp_92 (v := nI (N + 1)) (nI_1 _) ?_
      refine va_put (D := (dC, dI)) (ci := 4) (v := .int (nI (N + 1))) (ty := .int) (C := RX4) (T := TX4) (N := 17) hx hb hts hin_4 tyX4 tyX4_ok nmX4 hown hK hP hD hS 0 rfl rfl 2 (by decide) hf_49 (fun _ h9 => h9) rfl (by decide +kernel) rfl rfl (Nat.le_of_ble_eq_true rfl) dX4_addLamp_93 (fun H locs hP hD hS => ?_)
      have hP : va_P (dC, dI) vwCl (wMo b cI cZ cD 0 mh (nI (N + 1)) (upd ki N k) (upd pl N 0) tu le (vf_upd ch N (la_new k)) (vf_upd ca N (la_new k)) (nI M) wa la si (nI mb) bo (nI ma) al) H := hP
      have hD : va_D A (wMo b cI cZ cD 0 mh (nI (N + 1)) (upd ki N k) (upd pl N 0) tu le (vf_upd ch N (la_new k)) (vf_upd ca N (la_new k)) (nI M) wa la si (nI mb) bo (nI ma) al) := hD
      refine lv_aload_n hx hb dX4_addLamp_96 rfl (lv_at hl 0 rfl) ?_
      refine va_get (D := (dC, dI)) (ci := 4) (v := .int (nI (N + 1))) (C := RX4) (T := TX4) (N := 17) hx hb hts hin_4 hown hK hP 0 rfl rfl 2 (by decide) hf_49 (fun _ h9 => h9) rfl dX4_addLamp_97 ?_
      refine lv_iconst (v := 1) hx hb dX4_addLamp_100 (by decide) ?_
      refine t_isub hx hb dX4_addLamp_101 (v := nI N) (nI_pred N) ?_
      exact W.iret (v := nI N) hx hb hr (zq_qi rfl hP hK hD hS) hS.2.2 dX4_addLamp_102
    · have d_1 := (nI_eq (a := N) (b := 40) (by omega) (by omega)).mp c_1
      exact absurd d_1 (by omega)
  · have d_0 := zb_eq c_0
    exact absurd hk (by rw [d_0]; decide)

set_option maxHeartbeats 4000000 in
set_option maxRecDepth 100000 in
theorem c_X4_addMiner_bad (l : Launch) (dC : Nat → ClassId) (dI : Nat → Nat → Nat) (b : Nat → Nat) (cI cZ cD : ClassId) (mt mh : Int32) (ki pl tu le : Nat → Int32) (ch ca : Nat → UInt64) (N M mb ma : Nat) (wa la si bo al : Nat → Int32) (hN : N ≤ 40) (hM : M ≤ 30) (hmb : mb ≤ 30) (hma : ma ≤ 60) (k : Int32) (hk : in_b k 0 2 = false) (sz : Nat) : zq_Mi l yX4_addMiner wsX4_addMiner ({ frames := 1, cells := 0, slots := 0, locals := 22 } : Room) (dC, dI) (zq_T cI cZ cD) [.ref (b 0), .int k] (wMo b cI cZ cD mt mh (nI N) ki pl tu le ch ca (nI M) wa la si (nI mb) bo (nI ma) al) 0 (wMo b cI cZ cD 1 mh (nI N) ki pl tu le ch ca (nI M) wa la si (nI mb) bo (nI ma) al) sz := by
  refine Met.ofW (cc := cX4_addMiner) (maxL := 2) (ret := (some .int)) (by decide) rfl ?_
  intro p e s m args below meth c s₁ B hml hv
  obtain ⟨rfl, hsz, hP, hK, hD0⟩ := hv
  have hx := B.exec
  have hb := B.bytes
  have hr := B.returns
  have hts := atoms_spec (ws := wsX4_addMiner) B.pre
  have hown : s.vm.findClass RX4 = some m.cls := findClass_of_methodNamed B.named
  have hlocks := B.notSynchronized
  subst hsz
  have hD := hD0.self (sz := s.heap.size)
  generalize hAe : va_A (wMo b cI cZ cD mt mh (nI N) ki pl tu le ch ca (nI M) wa la si (nI mb) bo (nI ma) al) s.heap.size = A at hD ⊢
  have hA : ∀ q : Nat, s.heap.size ≤ q → A q := fun q h => by rw [← hAe]; exact Or.inr h
  have hS : va_S A s.heap s.heap [] := va_S.rf
  have hP : va_P (dC, dI) vwCl (wMo b cI cZ cD mt mh (nI N) ki pl tu le ch ca (nI M) wa la si (nI mb) bo (nI ma) al) s.heap := hP
  have hl := lv_entry ([.ref (b 0), .int k]) (n := 2) (Nat.le_of_ble_eq_true rfl)
  rw [lg_entry_eq]
  generalize (lg_sl ([.ref (b 0), .int k]) ++ List.replicate (2 - (lg_sl ([.ref (b 0), .int k])).length) Slot.unset).toArray = ls at hl ⊢
  have hl : lv_has ls 2 [(0, .ref (b 0)), (1, .int k)] := hl
  have hf_45 := hts (.fieldLink RX4 45 "LampRoomModel" "thrown" "I") (by decide +kernel)
  have hin_4 : ∀ w ∈ wsX40, w ∈ wsX4_addMiner := by decide +kernel
  refine lv_aload_n hx hb dX4_addMiner_0 rfl (lv_at hl 0 rfl) ?_
  refine lv_iload_n hx hb dX4_addMiner_1 rfl (lv_at hl 1 rfl) ?_
  refine lv_iconst (v := 0) hx hb dX4_addMiner_2 (by decide) ?_
  refine lv_iconst (v := 2) hx hb dX4_addMiner_3 (by decide) ?_
  refine zq_cSi (As := [.int k, .int 0, .int 2]) (rest := [.ref (b 0)]) ⟨hx, hb, hml, hown, hts⟩ (c_X4_in l k 0 2) (va_cwS 3 hts gX4_addMiner_X4_in rfl rfl rfl (by decide +kernel) ⟨Nat.le_of_ble_eq_true rfl, Nat.le_of_ble_eq_true rfl⟩) hP hS rfl hl.1 rfl (Nat.le_of_ble_eq_true rfl) dX4_addMiner_4 ⟨Nat.zero_le _, Nat.zero_le _⟩ (fun H locs hP hS => ?_)
  refine lv_if_ne (tgt := 14) hx hb dX4_addMiner_7 (by decide) (fun c_0 => ?_) (fun c_0 => ?_)
  · have d_0 := zb_ne c_0
    exact absurd hk (by rw [d_0]; decide)
  · have d_0 := zb_eq c_0
    refine lv_iconst (v := 1) hx hb dX4_addMiner_10 (by decide) ?_
    refine lv_goto (tgt := 28) hx hb dX4_addMiner_11 (by decide) ?_
    refine va_put (D := (dC, dI)) (ci := 4) (v := .int 1) (ty := .int) (C := RX4) (T := TX4) (N := 17) hx hb hts hin_4 tyX4 tyX4_ok nmX4 hown hK hP hD hS 0 rfl rfl 0 (by decide) hf_45 (fun _ h9 => h9) rfl (by decide +kernel) rfl rfl (Nat.le_of_ble_eq_true rfl) dX4_addMiner_28 (fun H locs hP hD hS => ?_)
    have hP : va_P (dC, dI) vwCl (wMo b cI cZ cD 1 mh (nI N) ki pl tu le ch ca (nI M) wa la si (nI mb) bo (nI ma) al) H := hP
    have hD : va_D A (wMo b cI cZ cD 1 mh (nI N) ki pl tu le ch ca (nI M) wa la si (nI mb) bo (nI ma) al) := hD
    refine lv_aload_n hx hb dX4_addMiner_31 rfl (lv_at hl 0 rfl) ?_
    refine va_get (D := (dC, dI)) (ci := 4) (v := .int 1) (C := RX4) (T := TX4) (N := 17) hx hb hts hin_4 hown hK hP 0 rfl rfl 0 (by decide) hf_45 (fun _ h9 => h9) rfl dX4_addMiner_32 ?_
    refine lv_if_le (tgt := 40) hx hb dX4_addMiner_35 (by decide) (fun c => absurd c (by decide)) (fun _ => ?_)
    refine lv_iconst (v := 0) hx hb dX4_addMiner_38 (by decide) ?_
    exact W.iret (v := 0) hx hb hr (zq_qi rfl hP hK hD hS) hS.2.2 dX4_addMiner_39

set_option maxHeartbeats 4000000 in
set_option maxRecDepth 100000 in
theorem c_X4_addMiner_full (l : Launch) (dC : Nat → ClassId) (dI : Nat → Nat → Nat) (b : Nat → Nat) (cI cZ cD : ClassId) (mt mh : Int32) (ki pl tu le : Nat → Int32) (ch ca : Nat → UInt64) (N M mb ma : Nat) (wa la si bo al : Nat → Int32) (hN : N ≤ 40) (hM : M ≤ 30) (hmb : mb ≤ 30) (hma : ma ≤ 60) (k : Int32) (hk : in_b k 0 2 = true) (hf : M = 30) (sz : Nat) : zq_Mi l yX4_addMiner wsX4_addMiner ({ frames := 1, cells := 0, slots := 0, locals := 22 } : Room) (dC, dI) (zq_T cI cZ cD) [.ref (b 0), .int k] (wMo b cI cZ cD mt mh (nI N) ki pl tu le ch ca (nI M) wa la si (nI mb) bo (nI ma) al) 0 (wMo b cI cZ cD 2 mh (nI N) ki pl tu le ch ca (nI M) wa la si (nI mb) bo (nI ma) al) sz := by
  refine Met.ofW (cc := cX4_addMiner) (maxL := 2) (ret := (some .int)) (by decide) rfl ?_
  intro p e s m args below meth c s₁ B hml hv
  obtain ⟨rfl, hsz, hP, hK, hD0⟩ := hv
  have hx := B.exec
  have hb := B.bytes
  have hr := B.returns
  have hts := atoms_spec (ws := wsX4_addMiner) B.pre
  have hown : s.vm.findClass RX4 = some m.cls := findClass_of_methodNamed B.named
  have hlocks := B.notSynchronized
  subst hsz
  have hD := hD0.self (sz := s.heap.size)
  generalize hAe : va_A (wMo b cI cZ cD mt mh (nI N) ki pl tu le ch ca (nI M) wa la si (nI mb) bo (nI ma) al) s.heap.size = A at hD ⊢
  have hA : ∀ q : Nat, s.heap.size ≤ q → A q := fun q h => by rw [← hAe]; exact Or.inr h
  have hS : va_S A s.heap s.heap [] := va_S.rf
  have hP : va_P (dC, dI) vwCl (wMo b cI cZ cD mt mh (nI N) ki pl tu le ch ca (nI M) wa la si (nI mb) bo (nI ma) al) s.heap := hP
  have hl := lv_entry ([.ref (b 0), .int k]) (n := 2) (Nat.le_of_ble_eq_true rfl)
  rw [lg_entry_eq]
  generalize (lg_sl ([.ref (b 0), .int k]) ++ List.replicate (2 - (lg_sl ([.ref (b 0), .int k])).length) Slot.unset).toArray = ls at hl ⊢
  have hl : lv_has ls 2 [(0, .ref (b 0)), (1, .int k)] := hl
  have hf_56 := hts (.fieldLink RX4 56 "LampRoomModel" "miners" "I") (by decide +kernel)
  have hin_4 : ∀ w ∈ wsX40, w ∈ wsX4_addMiner := by decide +kernel
  have hf_45 := hts (.fieldLink RX4 45 "LampRoomModel" "thrown" "I") (by decide +kernel)
  refine lv_aload_n hx hb dX4_addMiner_0 rfl (lv_at hl 0 rfl) ?_
  refine lv_iload_n hx hb dX4_addMiner_1 rfl (lv_at hl 1 rfl) ?_
  refine lv_iconst (v := 0) hx hb dX4_addMiner_2 (by decide) ?_
  refine lv_iconst (v := 2) hx hb dX4_addMiner_3 (by decide) ?_
  refine zq_cSi (As := [.int k, .int 0, .int 2]) (rest := [.ref (b 0)]) ⟨hx, hb, hml, hown, hts⟩ (c_X4_in l k 0 2) (va_cwS 3 hts gX4_addMiner_X4_in rfl rfl rfl (by decide +kernel) ⟨Nat.le_of_ble_eq_true rfl, Nat.le_of_ble_eq_true rfl⟩) hP hS rfl hl.1 rfl (Nat.le_of_ble_eq_true rfl) dX4_addMiner_4 ⟨Nat.zero_le _, Nat.zero_le _⟩ (fun H locs hP hS => ?_)
  refine lv_if_ne (tgt := 14) hx hb dX4_addMiner_7 (by decide) (fun c_0 => ?_) (fun c_0 => ?_)
  · have d_0 := zb_ne c_0
    refine lv_aload_n hx hb dX4_addMiner_14 rfl (lv_at hl 0 rfl) ?_
    refine va_get (D := (dC, dI)) (ci := 4) (v := .int (nI M)) (C := RX4) (T := TX4) (N := 17) hx hb hts hin_4 hown hK hP 0 rfl rfl 9 (by decide) hf_56 (fun _ h9 => h9) rfl dX4_addMiner_15 ?_
    refine lv_bipush (v := 30) hx hb dX4_addMiner_18 (by decide) ?_
    refine lv_icmp_ne (tgt := 27) hx hb dX4_addMiner_20 (by decide) (fun c_1 => ?_) (fun c_1 => ?_)
    · have d_1 := (fun h => c_1 ((nI_eq (a := M) (b := 30) (by omega) (by omega)).mpr h) : ¬ M = 30)
      exact absurd hf d_1
    · have d_1 := (nI_eq (a := M) (b := 30) (by omega) (by omega)).mp c_1
      refine lv_iconst (v := 2) hx hb dX4_addMiner_23 (by decide) ?_
      refine lv_goto (tgt := 28) hx hb dX4_addMiner_24 (by decide) ?_
      refine va_put (D := (dC, dI)) (ci := 4) (v := .int 2) (ty := .int) (C := RX4) (T := TX4) (N := 17) hx hb hts hin_4 tyX4 tyX4_ok nmX4 hown hK hP hD hS 0 rfl rfl 0 (by decide) hf_45 (fun _ h9 => h9) rfl (by decide +kernel) rfl rfl (Nat.le_of_ble_eq_true rfl) dX4_addMiner_28 (fun H locs hP hD hS => ?_)
      have hP : va_P (dC, dI) vwCl (wMo b cI cZ cD 2 mh (nI N) ki pl tu le ch ca (nI M) wa la si (nI mb) bo (nI ma) al) H := hP
      have hD : va_D A (wMo b cI cZ cD 2 mh (nI N) ki pl tu le ch ca (nI M) wa la si (nI mb) bo (nI ma) al) := hD
      refine lv_aload_n hx hb dX4_addMiner_31 rfl (lv_at hl 0 rfl) ?_
      refine va_get (D := (dC, dI)) (ci := 4) (v := .int 2) (C := RX4) (T := TX4) (N := 17) hx hb hts hin_4 hown hK hP 0 rfl rfl 0 (by decide) hf_45 (fun _ h9 => h9) rfl dX4_addMiner_32 ?_
      refine lv_if_le (tgt := 40) hx hb dX4_addMiner_35 (by decide) (fun c => absurd c (by decide)) (fun _ => ?_)
      refine lv_iconst (v := 0) hx hb dX4_addMiner_38 (by decide) ?_
      exact W.iret (v := 0) hx hb hr (zq_qi rfl hP hK hD hS) hS.2.2 dX4_addMiner_39
  · have d_0 := zb_eq c_0
    exact absurd hk (by rw [d_0]; decide)

set_option maxHeartbeats 4000000 in
set_option maxRecDepth 100000 in
theorem c_X4_addMiner_ok (l : Launch) (dC : Nat → ClassId) (dI : Nat → Nat → Nat) (b : Nat → Nat) (cI cZ cD : ClassId) (mt mh : Int32) (ki pl tu le : Nat → Int32) (ch ca : Nat → UInt64) (N M mb ma : Nat) (wa la si bo al : Nat → Int32) (hN : N ≤ 40) (hM : M ≤ 30) (hmb : mb ≤ 30) (hma : ma ≤ 60) (k : Int32) (hk : in_b k 0 2 = true) (hf : M < 30) (sz : Nat) : zq_Mi l yX4_addMiner wsX4_addMiner ({ frames := 1, cells := 0, slots := 0, locals := 22 } : Room) (dC, dI) (zq_T cI cZ cD) [.ref (b 0), .int k] (wMo b cI cZ cD mt mh (nI N) ki pl tu le ch ca (nI M) wa la si (nI mb) bo (nI ma) al) (nI M) (wMo b cI cZ cD 0 mh (nI N) ki pl tu le ch ca (nI (M + 1)) (upd wa M k) (upd la M (-1)) si (nI mb) bo (nI ma) al) sz := by
  refine Met.ofW (cc := cX4_addMiner) (maxL := 2) (ret := (some .int)) (by decide) rfl ?_
  intro p e s m args below meth c s₁ B hml hv
  obtain ⟨rfl, hsz, hP, hK, hD0⟩ := hv
  have hx := B.exec
  have hb := B.bytes
  have hr := B.returns
  have hts := atoms_spec (ws := wsX4_addMiner) B.pre
  have hown : s.vm.findClass RX4 = some m.cls := findClass_of_methodNamed B.named
  have hlocks := B.notSynchronized
  subst hsz
  have hD := hD0.self (sz := s.heap.size)
  generalize hAe : va_A (wMo b cI cZ cD mt mh (nI N) ki pl tu le ch ca (nI M) wa la si (nI mb) bo (nI ma) al) s.heap.size = A at hD ⊢
  have hA : ∀ q : Nat, s.heap.size ≤ q → A q := fun q h => by rw [← hAe]; exact Or.inr h
  have hS : va_S A s.heap s.heap [] := va_S.rf
  have hP : va_P (dC, dI) vwCl (wMo b cI cZ cD mt mh (nI N) ki pl tu le ch ca (nI M) wa la si (nI mb) bo (nI ma) al) s.heap := hP
  have hl := lv_entry ([.ref (b 0), .int k]) (n := 2) (Nat.le_of_ble_eq_true rfl)
  rw [lg_entry_eq]
  generalize (lg_sl ([.ref (b 0), .int k]) ++ List.replicate (2 - (lg_sl ([.ref (b 0), .int k])).length) Slot.unset).toArray = ls at hl ⊢
  have hl : lv_has ls 2 [(0, .ref (b 0)), (1, .int k)] := hl
  have hf_56 := hts (.fieldLink RX4 56 "LampRoomModel" "miners" "I") (by decide +kernel)
  have hin_4 : ∀ w ∈ wsX40, w ∈ wsX4_addMiner := by decide +kernel
  have hf_45 := hts (.fieldLink RX4 45 "LampRoomModel" "thrown" "I") (by decide +kernel)
  have hf_30 := hts (.fieldLink RX4 30 "LampRoomModel" "wants" "[I") (by decide +kernel)
  have hf_33 := hts (.fieldLink RX4 33 "LampRoomModel" "lamp" "[I") (by decide +kernel)
  refine lv_aload_n hx hb dX4_addMiner_0 rfl (lv_at hl 0 rfl) ?_
  refine lv_iload_n hx hb dX4_addMiner_1 rfl (lv_at hl 1 rfl) ?_
  refine lv_iconst (v := 0) hx hb dX4_addMiner_2 (by decide) ?_
  refine lv_iconst (v := 2) hx hb dX4_addMiner_3 (by decide) ?_
  refine zq_cSi (As := [.int k, .int 0, .int 2]) (rest := [.ref (b 0)]) ⟨hx, hb, hml, hown, hts⟩ (c_X4_in l k 0 2) (va_cwS 3 hts gX4_addMiner_X4_in rfl rfl rfl (by decide +kernel) ⟨Nat.le_of_ble_eq_true rfl, Nat.le_of_ble_eq_true rfl⟩) hP hS rfl hl.1 rfl (Nat.le_of_ble_eq_true rfl) dX4_addMiner_4 ⟨Nat.zero_le _, Nat.zero_le _⟩ (fun H locs hP hS => ?_)
  refine lv_if_ne (tgt := 14) hx hb dX4_addMiner_7 (by decide) (fun c_0 => ?_) (fun c_0 => ?_)
  · have d_0 := zb_ne c_0
    refine lv_aload_n hx hb dX4_addMiner_14 rfl (lv_at hl 0 rfl) ?_
    refine va_get (D := (dC, dI)) (ci := 4) (v := .int (nI M)) (C := RX4) (T := TX4) (N := 17) hx hb hts hin_4 hown hK hP 0 rfl rfl 9 (by decide) hf_56 (fun _ h9 => h9) rfl dX4_addMiner_15 ?_
    refine lv_bipush (v := 30) hx hb dX4_addMiner_18 (by decide) ?_
    refine lv_icmp_ne (tgt := 27) hx hb dX4_addMiner_20 (by decide) (fun c_1 => ?_) (fun c_1 => ?_)
    · have d_1 := (fun h => c_1 ((nI_eq (a := M) (b := 30) (by omega) (by omega)).mpr h) : ¬ M = 30)
      refine lv_iconst (v := 0) hx hb dX4_addMiner_27 (by decide) ?_
      refine va_put (D := (dC, dI)) (ci := 4) (v := .int 0) (ty := .int) (C := RX4) (T := TX4) (N := 17) hx hb hts hin_4 tyX4 tyX4_ok nmX4 hown hK hP hD hS 0 rfl rfl 0 (by decide) hf_45 (fun _ h9 => h9) rfl (by decide +kernel) rfl rfl (Nat.le_of_ble_eq_true rfl) dX4_addMiner_28 (fun H locs hP hD hS => ?_)
      have hP : va_P (dC, dI) vwCl (wMo b cI cZ cD 0 mh (nI N) ki pl tu le ch ca (nI M) wa la si (nI mb) bo (nI ma) al) H := hP
      have hD : va_D A (wMo b cI cZ cD 0 mh (nI N) ki pl tu le ch ca (nI M) wa la si (nI mb) bo (nI ma) al) := hD
      refine lv_aload_n hx hb dX4_addMiner_31 rfl (lv_at hl 0 rfl) ?_
      refine va_get (D := (dC, dI)) (ci := 4) (v := .int 0) (C := RX4) (T := TX4) (N := 17) hx hb hts hin_4 hown hK hP 0 rfl rfl 0 (by decide) hf_45 (fun _ h9 => h9) rfl dX4_addMiner_32 ?_
      refine lv_if_le (tgt := 40) hx hb dX4_addMiner_35 (by decide) (fun _ => ?_) (fun c => absurd c (by decide))
      refine lv_aload_n hx hb dX4_addMiner_40 rfl (lv_at hl 0 rfl) ?_
      refine va_get (D := (dC, dI)) (ci := 4) (v := .ref (b 7)) (C := RX4) (T := TX4) (N := 17) hx hb hts hin_4 hown hK hP 0 rfl rfl 10 (by decide) hf_30 (fun _ h9 => h9) rfl dX4_addMiner_41 ?_
      refine lv_aload_n hx hb dX4_addMiner_44 rfl (lv_at hl 0 rfl) ?_
      refine va_get (D := (dC, dI)) (ci := 4) (v := .int (nI M)) (C := RX4) (T := TX4) (N := 17) hx hb hts hin_4 hown hK hP 0 rfl rfl 9 (by decide) hf_56 (fun _ h9 => h9) rfl dX4_addMiner_45 ?_
      refine lv_iload_n hx hb dX4_addMiner_48 rfl (lv_at hl 1 rfl) ?_
      refine zq_iast hx hb hK hP hD hS 7 0 rfl rfl (j := M) (by omega) (by decide) (wMo b cI cZ cD 0 mh (nI N) ki pl tu le ch ca (nI M) (upd wa M k) la si (nI mb) bo (nI ma) al) rfl dX4_addMiner_49 (fun H locs hP hD hS => ?_)
      refine lv_aload_n hx hb dX4_addMiner_50 rfl (lv_at hl 0 rfl) ?_
      refine va_get (D := (dC, dI)) (ci := 4) (v := .ref (b 8)) (C := RX4) (T := TX4) (N := 17) hx hb hts hin_4 hown hK hP 0 rfl rfl 11 (by decide) hf_33 (fun _ h9 => h9) rfl dX4_addMiner_51 ?_
      refine lv_aload_n hx hb dX4_addMiner_54 rfl (lv_at hl 0 rfl) ?_
      refine va_get (D := (dC, dI)) (ci := 4) (v := .int (nI M)) (C := RX4) (T := TX4) (N := 17) hx hb hts hin_4 hown hK hP 0 rfl rfl 9 (by decide) hf_56 (fun _ h9 => h9) rfl dX4_addMiner_55 ?_
      refine lv_iconst (v := (-1)) hx hb dX4_addMiner_58 (by decide) ?_
      refine zq_iast hx hb hK hP hD hS 8 0 rfl rfl (j := M) (by omega) (by decide) (wMo b cI cZ cD 0 mh (nI N) ki pl tu le ch ca (nI M) (upd wa M k) (upd la M (-1)) si (nI mb) bo (nI ma) al) rfl dX4_addMiner_59 (fun H locs hP hD hS => ?_)
      refine lv_aload_n hx hb dX4_addMiner_60 rfl (lv_at hl 0 rfl) ?_
      refine lv_dup hx hb dX4_addMiner_61 rfl ?_
      refine va_get (D := (dC, dI)) (ci := 4) (v := .int (nI M)) (C := RX4) (T := TX4) (N := 17) hx hb hts hin_4 hown hK hP 0 rfl rfl 9 (by decide) hf_56 (fun _ h9 => h9) rfl dX4_addMiner_62 ?_
      refine lv_iconst (v := 1) hx hb dX4_addMiner_65 (by decide) ?_
      refine t_iadd hx hb dX4_addMiner_66 (v := nI (M + 1)) (nI_1 _) ?_
      refine va_put (D := (dC, dI)) (ci := 4) (v := .int (nI (M + 1))) (ty := .int) (C := RX4) (T := TX4) (N := 17) hx hb hts hin_4 tyX4 tyX4_ok nmX4 hown hK hP hD hS 0 rfl rfl 9 (by decide) hf_56 (fun _ h9 => h9) rfl (by decide +kernel) rfl rfl (Nat.le_of_ble_eq_true rfl) dX4_addMiner_67 (fun H locs hP hD hS => ?_)
      have hP : va_P (dC, dI) vwCl (wMo b cI cZ cD 0 mh (nI N) ki pl tu le ch ca (nI (M + 1)) (upd wa M k) (upd la M (-1)) si (nI mb) bo (nI ma) al) H := hP
      have hD : va_D A (wMo b cI cZ cD 0 mh (nI N) ki pl tu le ch ca (nI (M + 1)) (upd wa M k) (upd la M (-1)) si (nI mb) bo (nI ma) al) := hD
      refine lv_aload_n hx hb dX4_addMiner_70 rfl (lv_at hl 0 rfl) ?_
      refine va_get (D := (dC, dI)) (ci := 4) (v := .int (nI (M + 1))) (C := RX4) (T := TX4) (N := 17) hx hb hts hin_4 hown hK hP 0 rfl rfl 9 (by decide) hf_56 (fun _ h9 => h9) rfl dX4_addMiner_71 ?_
      refine lv_iconst (v := 1) hx hb dX4_addMiner_74 (by decide) ?_
      refine t_isub hx hb dX4_addMiner_75 (v := nI M) (nI_pred M) ?_
      exact W.iret (v := nI M) hx hb hr (zq_qi rfl hP hK hD hS) hS.2.2 dX4_addMiner_76
    · have d_1 := (nI_eq (a := M) (b := 30) (by omega) (by omega)).mp c_1
      exact absurd d_1 (by omega)
  · have d_0 := zb_eq c_0
    exact absurd hk (by rw [d_0]; decide)

set_option maxHeartbeats 4000000 in
set_option maxRecDepth 100000 in
theorem c_X4_issue_bad (l : Launch) (dC : Nat → ClassId) (dI : Nat → Nat → Nat) (b : Nat → Nat) (cI cZ cD : ClassId) (mt mh : Int32) (ki pl tu le : Nat → Int32) (ch ca : Nat → UInt64) (N M mb ma : Nat) (wa la si bo al : Nat → Int32) (hN : N ≤ 40) (hM : M ≤ 30) (hmb : mb ≤ 30) (hma : ma ≤ 60) (x : Int32) (hx0 : in_b x 0 (nI M - 1) = false) (sz : Nat) : zq_Mi l yX4_issue wsX4_issue ({ frames := 2, cells := 0, slots := 0, locals := 43 } : Room) (dC, dI) (zq_T cI cZ cD) [.ref (b 0), .int x] (wMo b cI cZ cD mt mh (nI N) ki pl tu le ch ca (nI M) wa la si (nI mb) bo (nI ma) al) 0 (wMo b cI cZ cD 1 mh (nI N) ki pl tu le ch ca (nI M) wa la si (nI mb) bo (nI ma) al) sz := by
  refine Met.ofW (cc := cX4_issue) (maxL := 3) (ret := (some .int)) (by decide) rfl ?_
  intro p e s m args below meth c s₁ B hml hv
  obtain ⟨rfl, hsz, hP, hK, hD0⟩ := hv
  have hx := B.exec
  have hb := B.bytes
  have hr := B.returns
  have hts := atoms_spec (ws := wsX4_issue) B.pre
  have hown : s.vm.findClass RX4 = some m.cls := findClass_of_methodNamed B.named
  have hlocks := B.notSynchronized
  subst hsz
  have hD := hD0.self (sz := s.heap.size)
  generalize hAe : va_A (wMo b cI cZ cD mt mh (nI N) ki pl tu le ch ca (nI M) wa la si (nI mb) bo (nI ma) al) s.heap.size = A at hD ⊢
  have hA : ∀ q : Nat, s.heap.size ≤ q → A q := fun q h => by rw [← hAe]; exact Or.inr h
  have hS : va_S A s.heap s.heap [] := va_S.rf
  have hP : va_P (dC, dI) vwCl (wMo b cI cZ cD mt mh (nI N) ki pl tu le ch ca (nI M) wa la si (nI mb) bo (nI ma) al) s.heap := hP
  have hl := lv_entry ([.ref (b 0), .int x]) (n := 3) (Nat.le_of_ble_eq_true rfl)
  rw [lg_entry_eq]
  generalize (lg_sl ([.ref (b 0), .int x]) ++ List.replicate (3 - (lg_sl ([.ref (b 0), .int x])).length) Slot.unset).toArray = ls at hl ⊢
  have hl : lv_has ls 3 [(0, .ref (b 0)), (1, .int x)] := hl
  have hf_45 := hts (.fieldLink RX4 45 "LampRoomModel" "thrown" "I") (by decide +kernel)
  have hin_4 : ∀ w ∈ wsX40, w ∈ wsX4_issue := by decide +kernel
  refine lv_aload_n hx hb dX4_issue_0 rfl (lv_at hl 0 rfl) ?_
  refine lv_aload_n hx hb dX4_issue_1 rfl (lv_at hl 0 rfl) ?_
  refine lv_iload_n hx hb dX4_issue_2 rfl (lv_at hl 1 rfl) ?_
  refine zq_cVi (As := [.int x]) (rest := [.ref (b 0)]) (wc := (wMo b cI cZ cD mt mh (nI N) ki pl tu le ch ca (nI M) wa la si (nI mb) bo (nI ma) al)) (w1 := (wMo b cI cZ cD mt mh (nI N) ki pl tu le ch ca (nI M) wa la si (nI mb) bo (nI ma) al)) (wr := ([] : va_W)) (ws' := (wMo b cI cZ cD mt mh (nI N) ki pl tu le ch ca (nI M) wa la si (nI mb) bo (nI ma) al)) ⟨hx, hb, hml, hown, hts⟩ (c_X4_isMiner l dC dI b cI cZ cD mt mh ki pl tu le ch ca N M mb ma wa la si bo al (by omega) (by omega) (by omega) (by omega) x s.heap.size) (cwV 1 hts gX4_issue_X4_isMiner rfl rfl rfl (by decide +kernel) ⟨Nat.le_of_ble_eq_true rfl, Nat.le_of_ble_eq_true rfl⟩) hK hP hD hS hA [0, 1, 2, 3, 4, 5, 6, 7, 8, 9, 10, 11] [] [0, 1, 2, 3, 4, 5, 6, 7, 8, 9, 10, 11] rfl rfl rfl rfl (by decide) rfl rfl (ci := 4) rfl 0 rfl rfl hl.1 rfl (Nat.le_of_ble_eq_true rfl) dX4_issue_3 ⟨Nat.zero_le _, Nat.zero_le _⟩ (fun H locs hP hD hS => ?_)
  refine lv_if_ne (tgt := 13) hx hb dX4_issue_6 (by decide) (fun c_0 => ?_) (fun c_0 => ?_)
  · have d_0 := zb_ne c_0
    exact absurd hx0 (by rw [d_0]; decide)
  · have d_0 := zb_eq c_0
    refine lv_iconst (v := 1) hx hb dX4_issue_9 (by decide) ?_
    refine lv_goto (tgt := 42) hx hb dX4_issue_10 (by decide) ?_
    refine va_put (D := (dC, dI)) (ci := 4) (v := .int 1) (ty := .int) (C := RX4) (T := TX4) (N := 17) hx hb hts hin_4 tyX4 tyX4_ok nmX4 hown hK hP hD hS 0 rfl rfl 0 (by decide) hf_45 (fun _ h9 => h9) rfl (by decide +kernel) rfl rfl (Nat.le_of_ble_eq_true rfl) dX4_issue_42 (fun H locs hP hD hS => ?_)
    have hP : va_P (dC, dI) vwCl (wMo b cI cZ cD 1 mh (nI N) ki pl tu le ch ca (nI M) wa la si (nI mb) bo (nI ma) al) H := hP
    have hD : va_D A (wMo b cI cZ cD 1 mh (nI N) ki pl tu le ch ca (nI M) wa la si (nI mb) bo (nI ma) al) := hD
    refine lv_aload_n hx hb dX4_issue_45 rfl (lv_at hl 0 rfl) ?_
    refine va_get (D := (dC, dI)) (ci := 4) (v := .int 1) (C := RX4) (T := TX4) (N := 17) hx hb hts hin_4 hown hK hP 0 rfl rfl 0 (by decide) hf_45 (fun _ h9 => h9) rfl dX4_issue_46 ?_
    refine lv_if_le (tgt := 54) hx hb dX4_issue_49 (by decide) (fun c => absurd c (by decide)) (fun _ => ?_)
    refine lv_iconst (v := 0) hx hb dX4_issue_52 (by decide) ?_
    exact W.iret (v := 0) hx hb hr (zq_qi rfl hP hK hD hS) hS.2.2 dX4_issue_53

set_option maxHeartbeats 4000000 in
set_option maxRecDepth 100000 in
theorem c_X4_issue_busy (l : Launch) (dC : Nat → ClassId) (dI : Nat → Nat → Nat) (b : Nat → Nat) (cI cZ cD : ClassId) (mt mh : Int32) (ki pl tu le : Nat → Int32) (ch ca : Nat → UInt64) (N M mb ma : Nat) (wa la si bo al : Nat → Int32) (hN : N ≤ 40) (hM : M ≤ 30) (hmb : mb ≤ 30) (hma : ma ≤ 60) (mi : Nat) (hm : mi < M) (hla : ¬ la mi = -1) (sz : Nat) : zq_Mi l yX4_issue wsX4_issue ({ frames := 2, cells := 0, slots := 0, locals := 43 } : Room) (dC, dI) (zq_T cI cZ cD) [.ref (b 0), .int (nI mi)] (wMo b cI cZ cD mt mh (nI N) ki pl tu le ch ca (nI M) wa la si (nI mb) bo (nI ma) al) 0 (wMo b cI cZ cD 2 mh (nI N) ki pl tu le ch ca (nI M) wa la si (nI mb) bo (nI ma) al) sz := by
  refine Met.ofW (cc := cX4_issue) (maxL := 3) (ret := (some .int)) (by decide) rfl ?_
  intro p e s m args below meth c s₁ B hml hv
  obtain ⟨rfl, hsz, hP, hK, hD0⟩ := hv
  have hx := B.exec
  have hb := B.bytes
  have hr := B.returns
  have hts := atoms_spec (ws := wsX4_issue) B.pre
  have hown : s.vm.findClass RX4 = some m.cls := findClass_of_methodNamed B.named
  have hlocks := B.notSynchronized
  subst hsz
  have hD := hD0.self (sz := s.heap.size)
  generalize hAe : va_A (wMo b cI cZ cD mt mh (nI N) ki pl tu le ch ca (nI M) wa la si (nI mb) bo (nI ma) al) s.heap.size = A at hD ⊢
  have hA : ∀ q : Nat, s.heap.size ≤ q → A q := fun q h => by rw [← hAe]; exact Or.inr h
  have hS : va_S A s.heap s.heap [] := va_S.rf
  have hP : va_P (dC, dI) vwCl (wMo b cI cZ cD mt mh (nI N) ki pl tu le ch ca (nI M) wa la si (nI mb) bo (nI ma) al) s.heap := hP
  have hl := lv_entry ([.ref (b 0), .int (nI mi)]) (n := 3) (Nat.le_of_ble_eq_true rfl)
  rw [lg_entry_eq]
  generalize (lg_sl ([.ref (b 0), .int (nI mi)]) ++ List.replicate (3 - (lg_sl ([.ref (b 0), .int (nI mi)])).length) Slot.unset).toArray = ls at hl ⊢
  have hl : lv_has ls 3 [(0, .ref (b 0)), (1, .int (nI mi))] := hl
  have hf_33 := hts (.fieldLink RX4 33 "LampRoomModel" "lamp" "[I") (by decide +kernel)
  have hin_4 : ∀ w ∈ wsX40, w ∈ wsX4_issue := by decide +kernel
  have hf_45 := hts (.fieldLink RX4 45 "LampRoomModel" "thrown" "I") (by decide +kernel)
  refine lv_aload_n hx hb dX4_issue_0 rfl (lv_at hl 0 rfl) ?_
  refine lv_aload_n hx hb dX4_issue_1 rfl (lv_at hl 0 rfl) ?_
  refine lv_iload_n hx hb dX4_issue_2 rfl (lv_at hl 1 rfl) ?_
  refine zq_cVi (As := [.int (nI mi)]) (rest := [.ref (b 0)]) (wc := (wMo b cI cZ cD mt mh (nI N) ki pl tu le ch ca (nI M) wa la si (nI mb) bo (nI ma) al)) (w1 := (wMo b cI cZ cD mt mh (nI N) ki pl tu le ch ca (nI M) wa la si (nI mb) bo (nI ma) al)) (wr := ([] : va_W)) (ws' := (wMo b cI cZ cD mt mh (nI N) ki pl tu le ch ca (nI M) wa la si (nI mb) bo (nI ma) al)) ⟨hx, hb, hml, hown, hts⟩ (c_X4_isMiner l dC dI b cI cZ cD mt mh ki pl tu le ch ca N M mb ma wa la si bo al (by omega) (by omega) (by omega) (by omega) (nI mi) s.heap.size) (cwV 1 hts gX4_issue_X4_isMiner rfl rfl rfl (by decide +kernel) ⟨Nat.le_of_ble_eq_true rfl, Nat.le_of_ble_eq_true rfl⟩) hK hP hD hS hA [0, 1, 2, 3, 4, 5, 6, 7, 8, 9, 10, 11] [] [0, 1, 2, 3, 4, 5, 6, 7, 8, 9, 10, 11] rfl rfl rfl rfl (by decide) rfl rfl (ci := 4) rfl 0 rfl rfl hl.1 rfl (Nat.le_of_ble_eq_true rfl) dX4_issue_3 ⟨Nat.zero_le _, Nat.zero_le _⟩ (fun H locs hP hD hS => ?_)
  refine lv_if_ne (tgt := 13) hx hb dX4_issue_6 (by decide) (fun c_0 => ?_) (fun c_0 => ?_)
  · have d_0 := zb_ne c_0
    refine lv_aload_n hx hb dX4_issue_13 rfl (lv_at hl 0 rfl) ?_
    refine va_get (D := (dC, dI)) (ci := 4) (v := .ref (b 8)) (C := RX4) (T := TX4) (N := 17) hx hb hts hin_4 hown hK hP 0 rfl rfl 11 (by decide) hf_33 (fun _ h9 => h9) rfl dX4_issue_14 ?_
    refine lv_iload_n hx hb dX4_issue_17 rfl (lv_at hl 1 rfl) ?_
    refine zq_iald hx hb hK hP 8 0 rfl rfl (j := mi) (by omega) (by decide) dX4_issue_18 ?_
    refine lv_iconst (v := (-1)) hx hb dX4_issue_19 (by decide) ?_
    refine lv_icmp_ne (tgt := 37) hx hb dX4_issue_20 (by decide) (fun c_1 => ?_) (fun c_1 => ?_)
    · refine lv_iconst (v := 2) hx hb dX4_issue_37 (by decide) ?_
      refine lv_goto (tgt := 42) hx hb dX4_issue_38 (by decide) ?_
      refine va_put (D := (dC, dI)) (ci := 4) (v := .int 2) (ty := .int) (C := RX4) (T := TX4) (N := 17) hx hb hts hin_4 tyX4 tyX4_ok nmX4 hown hK hP hD hS 0 rfl rfl 0 (by decide) hf_45 (fun _ h9 => h9) rfl (by decide +kernel) rfl rfl (Nat.le_of_ble_eq_true rfl) dX4_issue_42 (fun H locs hP hD hS => ?_)
      have hP : va_P (dC, dI) vwCl (wMo b cI cZ cD 2 mh (nI N) ki pl tu le ch ca (nI M) wa la si (nI mb) bo (nI ma) al) H := hP
      have hD : va_D A (wMo b cI cZ cD 2 mh (nI N) ki pl tu le ch ca (nI M) wa la si (nI mb) bo (nI ma) al) := hD
      refine lv_aload_n hx hb dX4_issue_45 rfl (lv_at hl 0 rfl) ?_
      refine va_get (D := (dC, dI)) (ci := 4) (v := .int 2) (C := RX4) (T := TX4) (N := 17) hx hb hts hin_4 hown hK hP 0 rfl rfl 0 (by decide) hf_45 (fun _ h9 => h9) rfl dX4_issue_46 ?_
      refine lv_if_le (tgt := 54) hx hb dX4_issue_49 (by decide) (fun c => absurd c (by decide)) (fun _ => ?_)
      refine lv_iconst (v := 0) hx hb dX4_issue_52 (by decide) ?_
      exact W.iret (v := 0) hx hb hr (zq_qi rfl hP hK hD hS) hS.2.2 dX4_issue_53
    · exact absurd c_1 hla
  · have d_0 := zb_eq c_0
    exact absurd (in_b_ok hm (by omega)) (by rw [d_0]; decide)

set_option maxHeartbeats 4000000 in
set_option maxRecDepth 100000 in
theorem c_X4_issue_none (l : Launch) (dC : Nat → ClassId) (dI : Nat → Nat → Nat) (b : Nat → Nat) (cI cZ cD : ClassId) (mt mh : Int32) (ki pl tu le : Nat → Int32) (ch ca : Nat → UInt64) (N M mb ma : Nat) (wa la si bo al : Nat → Int32) (hN : N ≤ 40) (hM : M ≤ 30) (hmb : mb ≤ 30) (hma : ma ≤ 60) (mi : Nat) (hm : mi < M) (hla : la mi = -1) (w : Nat) (hw : w < 3) (hwa : wa mi = nI w) (hb0 : la_best ki pl ch N (3 - w) w = -1) (sz : Nat) : zq_Mi l yX4_issue wsX4_issue ({ frames := 2, cells := 0, slots := 0, locals := 46 } : Room) (dC, dI) (zq_T cI cZ cD) [.ref (b 0), .int (nI mi)] (wMo b cI cZ cD mt mh (nI N) ki pl tu le ch ca (nI M) wa la si (nI mb) bo (nI ma) al) 0 (wMo b cI cZ cD 2 mh (nI N) ki pl tu le ch ca (nI M) wa la si (nI mb) bo (nI ma) al) sz := by
  refine Met.ofW (cc := cX4_issue) (maxL := 3) (ret := (some .int)) (by decide) rfl ?_
  intro p e s m args below meth c s₁ B hml hv
  obtain ⟨rfl, hsz, hP, hK, hD0⟩ := hv
  have hx := B.exec
  have hb := B.bytes
  have hr := B.returns
  have hts := atoms_spec (ws := wsX4_issue) B.pre
  have hown : s.vm.findClass RX4 = some m.cls := findClass_of_methodNamed B.named
  have hlocks := B.notSynchronized
  subst hsz
  have hD := hD0.self (sz := s.heap.size)
  generalize hAe : va_A (wMo b cI cZ cD mt mh (nI N) ki pl tu le ch ca (nI M) wa la si (nI mb) bo (nI ma) al) s.heap.size = A at hD ⊢
  have hA : ∀ q : Nat, s.heap.size ≤ q → A q := fun q h => by rw [← hAe]; exact Or.inr h
  have hS : va_S A s.heap s.heap [] := va_S.rf
  have hP : va_P (dC, dI) vwCl (wMo b cI cZ cD mt mh (nI N) ki pl tu le ch ca (nI M) wa la si (nI mb) bo (nI ma) al) s.heap := hP
  have hl := lv_entry ([.ref (b 0), .int (nI mi)]) (n := 3) (Nat.le_of_ble_eq_true rfl)
  rw [lg_entry_eq]
  generalize (lg_sl ([.ref (b 0), .int (nI mi)]) ++ List.replicate (3 - (lg_sl ([.ref (b 0), .int (nI mi)])).length) Slot.unset).toArray = ls at hl ⊢
  have hl : lv_has ls 3 [(0, .ref (b 0)), (1, .int (nI mi))] := hl
  have hf_33 := hts (.fieldLink RX4 33 "LampRoomModel" "lamp" "[I") (by decide +kernel)
  have hin_4 : ∀ w ∈ wsX40, w ∈ wsX4_issue := by decide +kernel
  have hf_30 := hts (.fieldLink RX4 30 "LampRoomModel" "wants" "[I") (by decide +kernel)
  have hf_45 := hts (.fieldLink RX4 45 "LampRoomModel" "thrown" "I") (by decide +kernel)
  refine lv_aload_n hx hb dX4_issue_0 rfl (lv_at hl 0 rfl) ?_
  refine lv_aload_n hx hb dX4_issue_1 rfl (lv_at hl 0 rfl) ?_
  refine lv_iload_n hx hb dX4_issue_2 rfl (lv_at hl 1 rfl) ?_
  refine zq_cVi (As := [.int (nI mi)]) (rest := [.ref (b 0)]) (wc := (wMo b cI cZ cD mt mh (nI N) ki pl tu le ch ca (nI M) wa la si (nI mb) bo (nI ma) al)) (w1 := (wMo b cI cZ cD mt mh (nI N) ki pl tu le ch ca (nI M) wa la si (nI mb) bo (nI ma) al)) (wr := ([] : va_W)) (ws' := (wMo b cI cZ cD mt mh (nI N) ki pl tu le ch ca (nI M) wa la si (nI mb) bo (nI ma) al)) ⟨hx, hb, hml, hown, hts⟩ (c_X4_isMiner l dC dI b cI cZ cD mt mh ki pl tu le ch ca N M mb ma wa la si bo al (by omega) (by omega) (by omega) (by omega) (nI mi) s.heap.size) (cwV 1 hts gX4_issue_X4_isMiner rfl rfl rfl (by decide +kernel) ⟨Nat.le_of_ble_eq_true rfl, Nat.le_of_ble_eq_true rfl⟩) hK hP hD hS hA [0, 1, 2, 3, 4, 5, 6, 7, 8, 9, 10, 11] [] [0, 1, 2, 3, 4, 5, 6, 7, 8, 9, 10, 11] rfl rfl rfl rfl (by decide) rfl rfl (ci := 4) rfl 0 rfl rfl hl.1 rfl (Nat.le_of_ble_eq_true rfl) dX4_issue_3 ⟨Nat.zero_le _, Nat.zero_le _⟩ (fun H locs hP hD hS => ?_)
  refine lv_if_ne (tgt := 13) hx hb dX4_issue_6 (by decide) (fun c_0 => ?_) (fun c_0 => ?_)
  · have d_0 := zb_ne c_0
    refine lv_aload_n hx hb dX4_issue_13 rfl (lv_at hl 0 rfl) ?_
    refine va_get (D := (dC, dI)) (ci := 4) (v := .ref (b 8)) (C := RX4) (T := TX4) (N := 17) hx hb hts hin_4 hown hK hP 0 rfl rfl 11 (by decide) hf_33 (fun _ h9 => h9) rfl dX4_issue_14 ?_
    refine lv_iload_n hx hb dX4_issue_17 rfl (lv_at hl 1 rfl) ?_
    refine zq_iald hx hb hK hP 8 0 rfl rfl (j := mi) (by omega) (by decide) dX4_issue_18 ?_
    refine lv_iconst (v := (-1)) hx hb dX4_issue_19 (by decide) ?_
    refine lv_icmp_ne (tgt := 37) hx hb dX4_issue_20 (by decide) (fun c_1 => ?_) (fun c_1 => ?_)
    · exact absurd hla c_1
    · refine lv_aload_n hx hb dX4_issue_23 rfl (lv_at hl 0 rfl) ?_
      refine lv_aload_n hx hb dX4_issue_24 rfl (lv_at hl 0 rfl) ?_
      refine va_get (D := (dC, dI)) (ci := 4) (v := .ref (b 7)) (C := RX4) (T := TX4) (N := 17) hx hb hts hin_4 hown hK hP 0 rfl rfl 10 (by decide) hf_30 (fun _ h9 => h9) rfl dX4_issue_25 ?_
      refine lv_iload_n hx hb dX4_issue_28 rfl (lv_at hl 1 rfl) ?_
      refine zq_iald hx hb hK hP 7 0 rfl rfl (j := mi) (by omega) (by decide) dX4_issue_29 ?_
      rw [hwa]
      refine zq_cVi (As := [.int (nI w)]) (rest := [.ref (b 0)]) (wc := (wMo b cI cZ cD mt mh (nI N) ki pl tu le ch ca (nI M) wa la si (nI mb) bo (nI ma) al)) (w1 := (wMo b cI cZ cD mt mh (nI N) ki pl tu le ch ca (nI M) wa la si (nI mb) bo (nI ma) al)) (wr := ([] : va_W)) (ws' := (wMo b cI cZ cD mt mh (nI N) ki pl tu le ch ca (nI M) wa la si (nI mb) bo (nI ma) al)) ⟨hx, hb, hml, hown, hts⟩ (c_X4_lampFor l dC dI b cI cZ cD mt mh ki pl tu le ch ca N M mb ma wa la si bo al (by omega) (by omega) (by omega) (by omega) w (by omega) H.size) (cwV 1 hts gX4_issue_X4_lampFor rfl rfl rfl (by decide +kernel) ⟨Nat.le_of_ble_eq_true rfl, Nat.le_of_ble_eq_true rfl⟩) hK hP hD hS hA [0, 1, 2, 3, 4, 5, 6, 7, 8, 9, 10, 11] [] [0, 1, 2, 3, 4, 5, 6, 7, 8, 9, 10, 11] rfl rfl rfl rfl (by decide) rfl rfl (ci := 4) rfl 0 rfl rfl hl.1 rfl (Nat.le_of_ble_eq_true rfl) dX4_issue_30 ⟨Nat.zero_le _, Nat.zero_le _⟩ (fun H locs hP hD hS => ?_)
      rw [hb0]
      refine lv_iconst (v := (-1)) hx hb dX4_issue_33 (by decide) ?_
      refine lv_icmp_ne (tgt := 41) hx hb dX4_issue_34 (by decide) (fun c => absurd c (by decide)) (fun _ => ?_)
      refine lv_iconst (v := 2) hx hb dX4_issue_37 (by decide) ?_
      refine lv_goto (tgt := 42) hx hb dX4_issue_38 (by decide) ?_
      refine va_put (D := (dC, dI)) (ci := 4) (v := .int 2) (ty := .int) (C := RX4) (T := TX4) (N := 17) hx hb hts hin_4 tyX4 tyX4_ok nmX4 hown hK hP hD hS 0 rfl rfl 0 (by decide) hf_45 (fun _ h9 => h9) rfl (by decide +kernel) rfl rfl (Nat.le_of_ble_eq_true rfl) dX4_issue_42 (fun H locs hP hD hS => ?_)
      have hP : va_P (dC, dI) vwCl (wMo b cI cZ cD 2 mh (nI N) ki pl tu le ch ca (nI M) wa la si (nI mb) bo (nI ma) al) H := hP
      have hD : va_D A (wMo b cI cZ cD 2 mh (nI N) ki pl tu le ch ca (nI M) wa la si (nI mb) bo (nI ma) al) := hD
      refine lv_aload_n hx hb dX4_issue_45 rfl (lv_at hl 0 rfl) ?_
      refine va_get (D := (dC, dI)) (ci := 4) (v := .int 2) (C := RX4) (T := TX4) (N := 17) hx hb hts hin_4 hown hK hP 0 rfl rfl 0 (by decide) hf_45 (fun _ h9 => h9) rfl dX4_issue_46 ?_
      refine lv_if_le (tgt := 54) hx hb dX4_issue_49 (by decide) (fun c => absurd c (by decide)) (fun _ => ?_)
      refine lv_iconst (v := 0) hx hb dX4_issue_52 (by decide) ?_
      exact W.iret (v := 0) hx hb hr (zq_qi rfl hP hK hD hS) hS.2.2 dX4_issue_53
  · have d_0 := zb_eq c_0
    exact absurd (in_b_ok hm (by omega)) (by rw [d_0]; decide)

set_option maxHeartbeats 4000000 in
set_option maxRecDepth 100000 in
theorem c_X4_issue_ok (l : Launch) (dC : Nat → ClassId) (dI : Nat → Nat → Nat) (b : Nat → Nat) (cI cZ cD : ClassId) (mt mh : Int32) (ki pl tu le : Nat → Int32) (ch ca : Nat → UInt64) (N M mb ma : Nat) (wa la si bo al : Nat → Int32) (hN : N ≤ 40) (hM : M ≤ 30) (hmb : mb ≤ 30) (hma : ma ≤ 60) (mi : Nat) (hm : mi < M) (hla : la mi = -1) (w : Nat) (hw : w < 3) (hwa : wa mi = nI w) (j : Nat) (hj : j < N) (hb0 : la_best ki pl ch N (3 - w) w = nI j) (hmb1 : mb < 30) (sz : Nat) : zq_Mi l yX4_issue wsX4_issue ({ frames := 2, cells := 0, slots := 0, locals := 46 } : Room) (dC, dI) (zq_T cI cZ cD) [.ref (b 0), .int (nI mi)] (wMo b cI cZ cD mt mh (nI N) ki pl tu le ch ca (nI M) wa la si (nI mb) bo (nI ma) al) (nI j) (wMo b cI cZ cD 0 mh (nI N) ki (upd pl j 1) tu le ch ca (nI M) wa (upd la mi (nI j)) (upd si mi mh) (nI (mb + 1)) (upd bo mb (nI mi)) (nI ma) al) sz := by
  refine Met.ofW (cc := cX4_issue) (maxL := 3) (ret := (some .int)) (by decide) rfl ?_
  intro p e s m args below meth c s₁ B hml hv
  obtain ⟨rfl, hsz, hP, hK, hD0⟩ := hv
  have hx := B.exec
  have hb := B.bytes
  have hr := B.returns
  have hts := atoms_spec (ws := wsX4_issue) B.pre
  have hown : s.vm.findClass RX4 = some m.cls := findClass_of_methodNamed B.named
  have hlocks := B.notSynchronized
  subst hsz
  have hD := hD0.self (sz := s.heap.size)
  generalize hAe : va_A (wMo b cI cZ cD mt mh (nI N) ki pl tu le ch ca (nI M) wa la si (nI mb) bo (nI ma) al) s.heap.size = A at hD ⊢
  have hA : ∀ q : Nat, s.heap.size ≤ q → A q := fun q h => by rw [← hAe]; exact Or.inr h
  have hS : va_S A s.heap s.heap [] := va_S.rf
  have hP : va_P (dC, dI) vwCl (wMo b cI cZ cD mt mh (nI N) ki pl tu le ch ca (nI M) wa la si (nI mb) bo (nI ma) al) s.heap := hP
  have hl := lv_entry ([.ref (b 0), .int (nI mi)]) (n := 3) (Nat.le_of_ble_eq_true rfl)
  rw [lg_entry_eq]
  generalize (lg_sl ([.ref (b 0), .int (nI mi)]) ++ List.replicate (3 - (lg_sl ([.ref (b 0), .int (nI mi)])).length) Slot.unset).toArray = ls at hl ⊢
  have hl : lv_has ls 3 [(0, .ref (b 0)), (1, .int (nI mi))] := hl
  have hf_33 := hts (.fieldLink RX4 33 "LampRoomModel" "lamp" "[I") (by decide +kernel)
  have hin_4 : ∀ w ∈ wsX40, w ∈ wsX4_issue := by decide +kernel
  have hf_30 := hts (.fieldLink RX4 30 "LampRoomModel" "wants" "[I") (by decide +kernel)
  have hf_45 := hts (.fieldLink RX4 45 "LampRoomModel" "thrown" "I") (by decide +kernel)
  have hf_13 := hts (.fieldLink RX4 13 "LampRoomModel" "place" "[I") (by decide +kernel)
  have hf_36 := hts (.fieldLink RX4 36 "LampRoomModel" "since" "[I") (by decide +kernel)
  have hf_82 := hts (.fieldLink RX4 82 "LampRoomModel" "hour" "I") (by decide +kernel)
  have hf_39 := hts (.fieldLink RX4 39 "LampRoomModel" "board" "[I") (by decide +kernel)
  have hf_85 := hts (.fieldLink RX4 85 "LampRoomModel" "below" "I") (by decide +kernel)
  refine lv_aload_n hx hb dX4_issue_0 rfl (lv_at hl 0 rfl) ?_
  refine lv_aload_n hx hb dX4_issue_1 rfl (lv_at hl 0 rfl) ?_
  refine lv_iload_n hx hb dX4_issue_2 rfl (lv_at hl 1 rfl) ?_
  refine zq_cVi (As := [.int (nI mi)]) (rest := [.ref (b 0)]) (wc := (wMo b cI cZ cD mt mh (nI N) ki pl tu le ch ca (nI M) wa la si (nI mb) bo (nI ma) al)) (w1 := (wMo b cI cZ cD mt mh (nI N) ki pl tu le ch ca (nI M) wa la si (nI mb) bo (nI ma) al)) (wr := ([] : va_W)) (ws' := (wMo b cI cZ cD mt mh (nI N) ki pl tu le ch ca (nI M) wa la si (nI mb) bo (nI ma) al)) ⟨hx, hb, hml, hown, hts⟩ (c_X4_isMiner l dC dI b cI cZ cD mt mh ki pl tu le ch ca N M mb ma wa la si bo al (by omega) (by omega) (by omega) (by omega) (nI mi) s.heap.size) (cwV 1 hts gX4_issue_X4_isMiner rfl rfl rfl (by decide +kernel) ⟨Nat.le_of_ble_eq_true rfl, Nat.le_of_ble_eq_true rfl⟩) hK hP hD hS hA [0, 1, 2, 3, 4, 5, 6, 7, 8, 9, 10, 11] [] [0, 1, 2, 3, 4, 5, 6, 7, 8, 9, 10, 11] rfl rfl rfl rfl (by decide) rfl rfl (ci := 4) rfl 0 rfl rfl hl.1 rfl (Nat.le_of_ble_eq_true rfl) dX4_issue_3 ⟨Nat.zero_le _, Nat.zero_le _⟩ (fun H locs hP hD hS => ?_)
  refine lv_if_ne (tgt := 13) hx hb dX4_issue_6 (by decide) (fun c_0 => ?_) (fun c_0 => ?_)
  · have d_0 := zb_ne c_0
    refine lv_aload_n hx hb dX4_issue_13 rfl (lv_at hl 0 rfl) ?_
    refine va_get (D := (dC, dI)) (ci := 4) (v := .ref (b 8)) (C := RX4) (T := TX4) (N := 17) hx hb hts hin_4 hown hK hP 0 rfl rfl 11 (by decide) hf_33 (fun _ h9 => h9) rfl dX4_issue_14 ?_
    refine lv_iload_n hx hb dX4_issue_17 rfl (lv_at hl 1 rfl) ?_
    refine zq_iald hx hb hK hP 8 0 rfl rfl (j := mi) (by omega) (by decide) dX4_issue_18 ?_
    refine lv_iconst (v := (-1)) hx hb dX4_issue_19 (by decide) ?_
    refine lv_icmp_ne (tgt := 37) hx hb dX4_issue_20 (by decide) (fun c_1 => ?_) (fun c_1 => ?_)
    · exact absurd hla c_1
    · refine lv_aload_n hx hb dX4_issue_23 rfl (lv_at hl 0 rfl) ?_
      refine lv_aload_n hx hb dX4_issue_24 rfl (lv_at hl 0 rfl) ?_
      refine va_get (D := (dC, dI)) (ci := 4) (v := .ref (b 7)) (C := RX4) (T := TX4) (N := 17) hx hb hts hin_4 hown hK hP 0 rfl rfl 10 (by decide) hf_30 (fun _ h9 => h9) rfl dX4_issue_25 ?_
      refine lv_iload_n hx hb dX4_issue_28 rfl (lv_at hl 1 rfl) ?_
      refine zq_iald hx hb hK hP 7 0 rfl rfl (j := mi) (by omega) (by decide) dX4_issue_29 ?_
      rw [hwa]
      refine zq_cVi (As := [.int (nI w)]) (rest := [.ref (b 0)]) (wc := (wMo b cI cZ cD mt mh (nI N) ki pl tu le ch ca (nI M) wa la si (nI mb) bo (nI ma) al)) (w1 := (wMo b cI cZ cD mt mh (nI N) ki pl tu le ch ca (nI M) wa la si (nI mb) bo (nI ma) al)) (wr := ([] : va_W)) (ws' := (wMo b cI cZ cD mt mh (nI N) ki pl tu le ch ca (nI M) wa la si (nI mb) bo (nI ma) al)) ⟨hx, hb, hml, hown, hts⟩ (c_X4_lampFor l dC dI b cI cZ cD mt mh ki pl tu le ch ca N M mb ma wa la si bo al (by omega) (by omega) (by omega) (by omega) w (by omega) H.size) (cwV 1 hts gX4_issue_X4_lampFor rfl rfl rfl (by decide +kernel) ⟨Nat.le_of_ble_eq_true rfl, Nat.le_of_ble_eq_true rfl⟩) hK hP hD hS hA [0, 1, 2, 3, 4, 5, 6, 7, 8, 9, 10, 11] [] [0, 1, 2, 3, 4, 5, 6, 7, 8, 9, 10, 11] rfl rfl rfl rfl (by decide) rfl rfl (ci := 4) rfl 0 rfl rfl hl.1 rfl (Nat.le_of_ble_eq_true rfl) dX4_issue_30 ⟨Nat.zero_le _, Nat.zero_le _⟩ (fun H locs hP hD hS => ?_)
      rw [hb0]
      refine lv_iconst (v := (-1)) hx hb dX4_issue_33 (by decide) ?_
      refine lv_icmp_ne (tgt := 41) hx hb dX4_issue_34 (by decide) (fun c_2 => ?_) (fun c_2 => ?_)
      · refine lv_iconst (v := 0) hx hb dX4_issue_41 (by decide) ?_
        refine va_put (D := (dC, dI)) (ci := 4) (v := .int 0) (ty := .int) (C := RX4) (T := TX4) (N := 17) hx hb hts hin_4 tyX4 tyX4_ok nmX4 hown hK hP hD hS 0 rfl rfl 0 (by decide) hf_45 (fun _ h9 => h9) rfl (by decide +kernel) rfl rfl (Nat.le_of_ble_eq_true rfl) dX4_issue_42 (fun H locs hP hD hS => ?_)
        have hP : va_P (dC, dI) vwCl (wMo b cI cZ cD 0 mh (nI N) ki pl tu le ch ca (nI M) wa la si (nI mb) bo (nI ma) al) H := hP
        have hD : va_D A (wMo b cI cZ cD 0 mh (nI N) ki pl tu le ch ca (nI M) wa la si (nI mb) bo (nI ma) al) := hD
        refine lv_aload_n hx hb dX4_issue_45 rfl (lv_at hl 0 rfl) ?_
        refine va_get (D := (dC, dI)) (ci := 4) (v := .int 0) (C := RX4) (T := TX4) (N := 17) hx hb hts hin_4 hown hK hP 0 rfl rfl 0 (by decide) hf_45 (fun _ h9 => h9) rfl dX4_issue_46 ?_
        refine lv_if_le (tgt := 54) hx hb dX4_issue_49 (by decide) (fun _ => ?_) (fun c => absurd c (by decide))
        refine lv_aload_n hx hb dX4_issue_54 rfl (lv_at hl 0 rfl) ?_
        refine lv_aload_n hx hb dX4_issue_55 rfl (lv_at hl 0 rfl) ?_
        refine va_get (D := (dC, dI)) (ci := 4) (v := .ref (b 7)) (C := RX4) (T := TX4) (N := 17) hx hb hts hin_4 hown hK hP 0 rfl rfl 10 (by decide) hf_30 (fun _ h9 => h9) rfl dX4_issue_56 ?_
        refine lv_iload_n hx hb dX4_issue_59 rfl (lv_at hl 1 rfl) ?_
        refine zq_iald hx hb hK hP 7 0 rfl rfl (j := mi) (by omega) (by decide) dX4_issue_60 ?_
        rw [hwa]
        refine zq_cVi (As := [.int (nI w)]) (rest := []) (wc := (wMo b cI cZ cD 0 mh (nI N) ki pl tu le ch ca (nI M) wa la si (nI mb) bo (nI ma) al)) (w1 := (wMo b cI cZ cD 0 mh (nI N) ki pl tu le ch ca (nI M) wa la si (nI mb) bo (nI ma) al)) (wr := ([] : va_W)) (ws' := (wMo b cI cZ cD 0 mh (nI N) ki pl tu le ch ca (nI M) wa la si (nI mb) bo (nI ma) al)) ⟨hx, hb, hml, hown, hts⟩ (c_X4_lampFor l dC dI b cI cZ cD 0 mh ki pl tu le ch ca N M mb ma wa la si bo al (by omega) (by omega) (by omega) (by omega) w (by omega) H.size) (cwV 1 hts gX4_issue_X4_lampFor rfl rfl rfl (by decide +kernel) ⟨Nat.le_of_ble_eq_true rfl, Nat.le_of_ble_eq_true rfl⟩) hK hP hD hS hA [0, 1, 2, 3, 4, 5, 6, 7, 8, 9, 10, 11] [] [0, 1, 2, 3, 4, 5, 6, 7, 8, 9, 10, 11] rfl rfl rfl rfl (by decide) rfl rfl (ci := 4) rfl 0 rfl rfl hl.1 rfl (Nat.le_of_ble_eq_true rfl) dX4_issue_61 ⟨Nat.zero_le _, Nat.zero_le _⟩ (fun H locs hP hD hS => ?_)
        rw [hb0]
        refine lv_istore_n (lv' := [(2, .int (nI j)), (0, .ref (b 0)), (1, .int (nI mi))]) hx hb dX4_issue_64 rfl hl (by decide) rfl (fun ls hl => ?_)
        refine lv_aload_n hx hb dX4_issue_65 rfl (lv_at hl 1 rfl) ?_
        refine va_get (D := (dC, dI)) (ci := 4) (v := .ref (b 2)) (C := RX4) (T := TX4) (N := 17) hx hb hts hin_4 hown hK hP 0 rfl rfl 4 (by decide) hf_13 (fun _ h9 => h9) rfl dX4_issue_66 ?_
        refine lv_iload_n hx hb dX4_issue_69 rfl (lv_at hl 0 rfl) ?_
        refine lv_iconst (v := 1) hx hb dX4_issue_70 (by decide) ?_
        refine zq_iast hx hb hK hP hD hS 2 0 rfl rfl (j := j) (by omega) (by decide) (wMo b cI cZ cD 0 mh (nI N) ki (upd pl j 1) tu le ch ca (nI M) wa la si (nI mb) bo (nI ma) al) rfl dX4_issue_71 (fun H locs hP hD hS => ?_)
        refine lv_aload_n hx hb dX4_issue_72 rfl (lv_at hl 1 rfl) ?_
        refine va_get (D := (dC, dI)) (ci := 4) (v := .ref (b 8)) (C := RX4) (T := TX4) (N := 17) hx hb hts hin_4 hown hK hP 0 rfl rfl 11 (by decide) hf_33 (fun _ h9 => h9) rfl dX4_issue_73 ?_
        refine lv_iload_n hx hb dX4_issue_76 rfl (lv_at hl 2 rfl) ?_
        refine lv_iload_n hx hb dX4_issue_77 rfl (lv_at hl 0 rfl) ?_
        refine zq_iast hx hb hK hP hD hS 8 0 rfl rfl (j := mi) (by omega) (by decide) (wMo b cI cZ cD 0 mh (nI N) ki (upd pl j 1) tu le ch ca (nI M) wa (upd la mi (nI j)) si (nI mb) bo (nI ma) al) rfl dX4_issue_78 (fun H locs hP hD hS => ?_)
        refine lv_aload_n hx hb dX4_issue_79 rfl (lv_at hl 1 rfl) ?_
        refine va_get (D := (dC, dI)) (ci := 4) (v := .ref (b 9)) (C := RX4) (T := TX4) (N := 17) hx hb hts hin_4 hown hK hP 0 rfl rfl 12 (by decide) hf_36 (fun _ h9 => h9) rfl dX4_issue_80 ?_
        refine lv_iload_n hx hb dX4_issue_83 rfl (lv_at hl 2 rfl) ?_
        refine lv_aload_n hx hb dX4_issue_84 rfl (lv_at hl 1 rfl) ?_
        refine va_get (D := (dC, dI)) (ci := 4) (v := .int mh) (C := RX4) (T := TX4) (N := 17) hx hb hts hin_4 hown hK hP 0 rfl rfl 1 (by decide) hf_82 (fun _ h9 => h9) rfl dX4_issue_85 ?_
        refine zq_iast hx hb hK hP hD hS 9 0 rfl rfl (j := mi) (by omega) (by decide) (wMo b cI cZ cD 0 mh (nI N) ki (upd pl j 1) tu le ch ca (nI M) wa (upd la mi (nI j)) (upd si mi mh) (nI mb) bo (nI ma) al) rfl dX4_issue_88 (fun H locs hP hD hS => ?_)
        refine lv_aload_n hx hb dX4_issue_89 rfl (lv_at hl 1 rfl) ?_
        refine va_get (D := (dC, dI)) (ci := 4) (v := .ref (b 10)) (C := RX4) (T := TX4) (N := 17) hx hb hts hin_4 hown hK hP 0 rfl rfl 14 (by decide) hf_39 (fun _ h9 => h9) rfl dX4_issue_90 ?_
        refine lv_aload_n hx hb dX4_issue_93 rfl (lv_at hl 1 rfl) ?_
        refine va_get (D := (dC, dI)) (ci := 4) (v := .int (nI mb)) (C := RX4) (T := TX4) (N := 17) hx hb hts hin_4 hown hK hP 0 rfl rfl 13 (by decide) hf_85 (fun _ h9 => h9) rfl dX4_issue_94 ?_
        refine lv_iload_n hx hb dX4_issue_97 rfl (lv_at hl 2 rfl) ?_
        refine zq_iast hx hb hK hP hD hS 10 0 rfl rfl (j := mb) (by omega) (by decide) (wMo b cI cZ cD 0 mh (nI N) ki (upd pl j 1) tu le ch ca (nI M) wa (upd la mi (nI j)) (upd si mi mh) (nI mb) (upd bo mb (nI mi)) (nI ma) al) rfl dX4_issue_98 (fun H locs hP hD hS => ?_)
        refine lv_aload_n hx hb dX4_issue_99 rfl (lv_at hl 1 rfl) ?_
        refine lv_dup hx hb dX4_issue_100 rfl ?_
        refine va_get (D := (dC, dI)) (ci := 4) (v := .int (nI mb)) (C := RX4) (T := TX4) (N := 17) hx hb hts hin_4 hown hK hP 0 rfl rfl 13 (by decide) hf_85 (fun _ h9 => h9) rfl dX4_issue_101 ?_
        refine lv_iconst (v := 1) hx hb dX4_issue_104 (by decide) ?_
        refine t_iadd hx hb dX4_issue_105 (v := nI (mb + 1)) (nI_1 _) ?_
        refine va_put (D := (dC, dI)) (ci := 4) (v := .int (nI (mb + 1))) (ty := .int) (C := RX4) (T := TX4) (N := 17) hx hb hts hin_4 tyX4 tyX4_ok nmX4 hown hK hP hD hS 0 rfl rfl 13 (by decide) hf_85 (fun _ h9 => h9) rfl (by decide +kernel) rfl rfl (Nat.le_of_ble_eq_true rfl) dX4_issue_106 (fun H locs hP hD hS => ?_)
        have hP : va_P (dC, dI) vwCl (wMo b cI cZ cD 0 mh (nI N) ki (upd pl j 1) tu le ch ca (nI M) wa (upd la mi (nI j)) (upd si mi mh) (nI (mb + 1)) (upd bo mb (nI mi)) (nI ma) al) H := hP
        have hD : va_D A (wMo b cI cZ cD 0 mh (nI N) ki (upd pl j 1) tu le ch ca (nI M) wa (upd la mi (nI j)) (upd si mi mh) (nI (mb + 1)) (upd bo mb (nI mi)) (nI ma) al) := hD
        refine lv_iload_n hx hb dX4_issue_109 rfl (lv_at hl 0 rfl) ?_
        exact W.iret (v := nI j) hx hb hr (zq_qi rfl hP hK hD hS) hS.2.2 dX4_issue_110
      · exact absurd c_2 (nI_nm1 (by omega))
  · have d_0 := zb_eq c_0
    exact absurd (in_b_ok hm (by omega)) (by rw [d_0]; decide)

set_option maxHeartbeats 4000000 in
set_option maxRecDepth 100000 in
theorem c_X4_back_bad (l : Launch) (dC : Nat → ClassId) (dI : Nat → Nat → Nat) (b : Nat → Nat) (cI cZ cD : ClassId) (mt mh : Int32) (ki pl tu le : Nat → Int32) (ch ca : Nat → UInt64) (N M mb ma : Nat) (wa la si bo al : Nat → Int32) (hN : N ≤ 40) (hM : M ≤ 30) (hmb : mb ≤ 30) (hma : ma ≤ 60) (x : Int32) (hx0 : in_b x 0 (nI M - 1) = false) (sz : Nat) : zq_Mi l yX4_back wsX4_back ({ frames := 2, cells := 0, slots := 0, locals := 43 } : Room) (dC, dI) (zq_T cI cZ cD) [.ref (b 0), .int x] (wMo b cI cZ cD mt mh (nI N) ki pl tu le ch ca (nI M) wa la si (nI mb) bo (nI ma) al) 0 (wMo b cI cZ cD 1 mh (nI N) ki pl tu le ch ca (nI M) wa la si (nI mb) bo (nI ma) al) sz := by
  refine Met.ofW (cc := cX4_back) (maxL := 3) (ret := (some .int)) (by decide) rfl ?_
  intro p e s m args below meth c s₁ B hml hv
  obtain ⟨rfl, hsz, hP, hK, hD0⟩ := hv
  have hx := B.exec
  have hb := B.bytes
  have hr := B.returns
  have hts := atoms_spec (ws := wsX4_back) B.pre
  have hown : s.vm.findClass RX4 = some m.cls := findClass_of_methodNamed B.named
  have hlocks := B.notSynchronized
  subst hsz
  have hD := hD0.self (sz := s.heap.size)
  generalize hAe : va_A (wMo b cI cZ cD mt mh (nI N) ki pl tu le ch ca (nI M) wa la si (nI mb) bo (nI ma) al) s.heap.size = A at hD ⊢
  have hA : ∀ q : Nat, s.heap.size ≤ q → A q := fun q h => by rw [← hAe]; exact Or.inr h
  have hS : va_S A s.heap s.heap [] := va_S.rf
  have hP : va_P (dC, dI) vwCl (wMo b cI cZ cD mt mh (nI N) ki pl tu le ch ca (nI M) wa la si (nI mb) bo (nI ma) al) s.heap := hP
  have hl := lv_entry ([.ref (b 0), .int x]) (n := 3) (Nat.le_of_ble_eq_true rfl)
  rw [lg_entry_eq]
  generalize (lg_sl ([.ref (b 0), .int x]) ++ List.replicate (3 - (lg_sl ([.ref (b 0), .int x])).length) Slot.unset).toArray = ls at hl ⊢
  have hl : lv_has ls 3 [(0, .ref (b 0)), (1, .int x)] := hl
  have hf_45 := hts (.fieldLink RX4 45 "LampRoomModel" "thrown" "I") (by decide +kernel)
  have hin_4 : ∀ w ∈ wsX40, w ∈ wsX4_back := by decide +kernel
  refine lv_aload_n hx hb dX4_back_0 rfl (lv_at hl 0 rfl) ?_
  refine lv_aload_n hx hb dX4_back_1 rfl (lv_at hl 0 rfl) ?_
  refine lv_iload_n hx hb dX4_back_2 rfl (lv_at hl 1 rfl) ?_
  refine zq_cVi (As := [.int x]) (rest := [.ref (b 0)]) (wc := (wMo b cI cZ cD mt mh (nI N) ki pl tu le ch ca (nI M) wa la si (nI mb) bo (nI ma) al)) (w1 := (wMo b cI cZ cD mt mh (nI N) ki pl tu le ch ca (nI M) wa la si (nI mb) bo (nI ma) al)) (wr := ([] : va_W)) (ws' := (wMo b cI cZ cD mt mh (nI N) ki pl tu le ch ca (nI M) wa la si (nI mb) bo (nI ma) al)) ⟨hx, hb, hml, hown, hts⟩ (c_X4_isMiner l dC dI b cI cZ cD mt mh ki pl tu le ch ca N M mb ma wa la si bo al (by omega) (by omega) (by omega) (by omega) x s.heap.size) (cwV 1 hts gX4_back_X4_isMiner rfl rfl rfl (by decide +kernel) ⟨Nat.le_of_ble_eq_true rfl, Nat.le_of_ble_eq_true rfl⟩) hK hP hD hS hA [0, 1, 2, 3, 4, 5, 6, 7, 8, 9, 10, 11] [] [0, 1, 2, 3, 4, 5, 6, 7, 8, 9, 10, 11] rfl rfl rfl rfl (by decide) rfl rfl (ci := 4) rfl 0 rfl rfl hl.1 rfl (Nat.le_of_ble_eq_true rfl) dX4_back_3 ⟨Nat.zero_le _, Nat.zero_le _⟩ (fun H locs hP hD hS => ?_)
  refine lv_if_ne (tgt := 13) hx hb dX4_back_6 (by decide) (fun c_0 => ?_) (fun c_0 => ?_)
  · have d_0 := zb_ne c_0
    exact absurd hx0 (by rw [d_0]; decide)
  · have d_0 := zb_eq c_0
    refine lv_iconst (v := 1) hx hb dX4_back_9 (by decide) ?_
    refine lv_goto (tgt := 28) hx hb dX4_back_10 (by decide) ?_
    refine va_put (D := (dC, dI)) (ci := 4) (v := .int 1) (ty := .int) (C := RX4) (T := TX4) (N := 17) hx hb hts hin_4 tyX4 tyX4_ok nmX4 hown hK hP hD hS 0 rfl rfl 0 (by decide) hf_45 (fun _ h9 => h9) rfl (by decide +kernel) rfl rfl (Nat.le_of_ble_eq_true rfl) dX4_back_28 (fun H locs hP hD hS => ?_)
    have hP : va_P (dC, dI) vwCl (wMo b cI cZ cD 1 mh (nI N) ki pl tu le ch ca (nI M) wa la si (nI mb) bo (nI ma) al) H := hP
    have hD : va_D A (wMo b cI cZ cD 1 mh (nI N) ki pl tu le ch ca (nI M) wa la si (nI mb) bo (nI ma) al) := hD
    refine lv_aload_n hx hb dX4_back_31 rfl (lv_at hl 0 rfl) ?_
    refine va_get (D := (dC, dI)) (ci := 4) (v := .int 1) (C := RX4) (T := TX4) (N := 17) hx hb hts hin_4 hown hK hP 0 rfl rfl 0 (by decide) hf_45 (fun _ h9 => h9) rfl dX4_back_32 ?_
    refine lv_if_le (tgt := 40) hx hb dX4_back_35 (by decide) (fun c => absurd c (by decide)) (fun _ => ?_)
    refine lv_iconst (v := 0) hx hb dX4_back_38 (by decide) ?_
    exact W.iret (v := 0) hx hb hr (zq_qi rfl hP hK hD hS) hS.2.2 dX4_back_39

set_option maxHeartbeats 4000000 in
set_option maxRecDepth 100000 in
theorem c_X4_back_off (l : Launch) (dC : Nat → ClassId) (dI : Nat → Nat → Nat) (b : Nat → Nat) (cI cZ cD : ClassId) (mt mh : Int32) (ki pl tu le : Nat → Int32) (ch ca : Nat → UInt64) (N M mb ma : Nat) (wa la si bo al : Nat → Int32) (hN : N ≤ 40) (hM : M ≤ 30) (hmb : mb ≤ 30) (hma : ma ≤ 60) (mi : Nat) (hm : mi < M) (hla : la mi = -1) (sz : Nat) : zq_Mi l yX4_back wsX4_back ({ frames := 2, cells := 0, slots := 0, locals := 43 } : Room) (dC, dI) (zq_T cI cZ cD) [.ref (b 0), .int (nI mi)] (wMo b cI cZ cD mt mh (nI N) ki pl tu le ch ca (nI M) wa la si (nI mb) bo (nI ma) al) 0 (wMo b cI cZ cD 2 mh (nI N) ki pl tu le ch ca (nI M) wa la si (nI mb) bo (nI ma) al) sz := by
  refine Met.ofW (cc := cX4_back) (maxL := 3) (ret := (some .int)) (by decide) rfl ?_
  intro p e s m args below meth c s₁ B hml hv
  obtain ⟨rfl, hsz, hP, hK, hD0⟩ := hv
  have hx := B.exec
  have hb := B.bytes
  have hr := B.returns
  have hts := atoms_spec (ws := wsX4_back) B.pre
  have hown : s.vm.findClass RX4 = some m.cls := findClass_of_methodNamed B.named
  have hlocks := B.notSynchronized
  subst hsz
  have hD := hD0.self (sz := s.heap.size)
  generalize hAe : va_A (wMo b cI cZ cD mt mh (nI N) ki pl tu le ch ca (nI M) wa la si (nI mb) bo (nI ma) al) s.heap.size = A at hD ⊢
  have hA : ∀ q : Nat, s.heap.size ≤ q → A q := fun q h => by rw [← hAe]; exact Or.inr h
  have hS : va_S A s.heap s.heap [] := va_S.rf
  have hP : va_P (dC, dI) vwCl (wMo b cI cZ cD mt mh (nI N) ki pl tu le ch ca (nI M) wa la si (nI mb) bo (nI ma) al) s.heap := hP
  have hl := lv_entry ([.ref (b 0), .int (nI mi)]) (n := 3) (Nat.le_of_ble_eq_true rfl)
  rw [lg_entry_eq]
  generalize (lg_sl ([.ref (b 0), .int (nI mi)]) ++ List.replicate (3 - (lg_sl ([.ref (b 0), .int (nI mi)])).length) Slot.unset).toArray = ls at hl ⊢
  have hl : lv_has ls 3 [(0, .ref (b 0)), (1, .int (nI mi))] := hl
  have hf_33 := hts (.fieldLink RX4 33 "LampRoomModel" "lamp" "[I") (by decide +kernel)
  have hin_4 : ∀ w ∈ wsX40, w ∈ wsX4_back := by decide +kernel
  have hf_45 := hts (.fieldLink RX4 45 "LampRoomModel" "thrown" "I") (by decide +kernel)
  refine lv_aload_n hx hb dX4_back_0 rfl (lv_at hl 0 rfl) ?_
  refine lv_aload_n hx hb dX4_back_1 rfl (lv_at hl 0 rfl) ?_
  refine lv_iload_n hx hb dX4_back_2 rfl (lv_at hl 1 rfl) ?_
  refine zq_cVi (As := [.int (nI mi)]) (rest := [.ref (b 0)]) (wc := (wMo b cI cZ cD mt mh (nI N) ki pl tu le ch ca (nI M) wa la si (nI mb) bo (nI ma) al)) (w1 := (wMo b cI cZ cD mt mh (nI N) ki pl tu le ch ca (nI M) wa la si (nI mb) bo (nI ma) al)) (wr := ([] : va_W)) (ws' := (wMo b cI cZ cD mt mh (nI N) ki pl tu le ch ca (nI M) wa la si (nI mb) bo (nI ma) al)) ⟨hx, hb, hml, hown, hts⟩ (c_X4_isMiner l dC dI b cI cZ cD mt mh ki pl tu le ch ca N M mb ma wa la si bo al (by omega) (by omega) (by omega) (by omega) (nI mi) s.heap.size) (cwV 1 hts gX4_back_X4_isMiner rfl rfl rfl (by decide +kernel) ⟨Nat.le_of_ble_eq_true rfl, Nat.le_of_ble_eq_true rfl⟩) hK hP hD hS hA [0, 1, 2, 3, 4, 5, 6, 7, 8, 9, 10, 11] [] [0, 1, 2, 3, 4, 5, 6, 7, 8, 9, 10, 11] rfl rfl rfl rfl (by decide) rfl rfl (ci := 4) rfl 0 rfl rfl hl.1 rfl (Nat.le_of_ble_eq_true rfl) dX4_back_3 ⟨Nat.zero_le _, Nat.zero_le _⟩ (fun H locs hP hD hS => ?_)
  refine lv_if_ne (tgt := 13) hx hb dX4_back_6 (by decide) (fun c_0 => ?_) (fun c_0 => ?_)
  · have d_0 := zb_ne c_0
    refine lv_aload_n hx hb dX4_back_13 rfl (lv_at hl 0 rfl) ?_
    refine va_get (D := (dC, dI)) (ci := 4) (v := .ref (b 8)) (C := RX4) (T := TX4) (N := 17) hx hb hts hin_4 hown hK hP 0 rfl rfl 11 (by decide) hf_33 (fun _ h9 => h9) rfl dX4_back_14 ?_
    refine lv_iload_n hx hb dX4_back_17 rfl (lv_at hl 1 rfl) ?_
    refine zq_iald hx hb hK hP 8 0 rfl rfl (j := mi) (by omega) (by decide) dX4_back_18 ?_
    refine lv_iconst (v := (-1)) hx hb dX4_back_19 (by decide) ?_
    refine lv_icmp_ne (tgt := 27) hx hb dX4_back_20 (by decide) (fun c_1 => ?_) (fun c_1 => ?_)
    · exact absurd hla c_1
    · refine lv_iconst (v := 2) hx hb dX4_back_23 (by decide) ?_
      refine lv_goto (tgt := 28) hx hb dX4_back_24 (by decide) ?_
      refine va_put (D := (dC, dI)) (ci := 4) (v := .int 2) (ty := .int) (C := RX4) (T := TX4) (N := 17) hx hb hts hin_4 tyX4 tyX4_ok nmX4 hown hK hP hD hS 0 rfl rfl 0 (by decide) hf_45 (fun _ h9 => h9) rfl (by decide +kernel) rfl rfl (Nat.le_of_ble_eq_true rfl) dX4_back_28 (fun H locs hP hD hS => ?_)
      have hP : va_P (dC, dI) vwCl (wMo b cI cZ cD 2 mh (nI N) ki pl tu le ch ca (nI M) wa la si (nI mb) bo (nI ma) al) H := hP
      have hD : va_D A (wMo b cI cZ cD 2 mh (nI N) ki pl tu le ch ca (nI M) wa la si (nI mb) bo (nI ma) al) := hD
      refine lv_aload_n hx hb dX4_back_31 rfl (lv_at hl 0 rfl) ?_
      refine va_get (D := (dC, dI)) (ci := 4) (v := .int 2) (C := RX4) (T := TX4) (N := 17) hx hb hts hin_4 hown hK hP 0 rfl rfl 0 (by decide) hf_45 (fun _ h9 => h9) rfl dX4_back_32 ?_
      refine lv_if_le (tgt := 40) hx hb dX4_back_35 (by decide) (fun c => absurd c (by decide)) (fun _ => ?_)
      refine lv_iconst (v := 0) hx hb dX4_back_38 (by decide) ?_
      exact W.iret (v := 0) hx hb hr (zq_qi rfl hP hK hD hS) hS.2.2 dX4_back_39
  · have d_0 := zb_eq c_0
    exact absurd (in_b_ok hm (by omega)) (by rw [d_0]; decide)

set_option maxHeartbeats 4000000 in
set_option maxRecDepth 100000 in
theorem c_X4_back_ok (l : Launch) (dC : Nat → ClassId) (dI : Nat → Nat → Nat) (b : Nat → Nat) (cI cZ cD : ClassId) (mt mh : Int32) (ki pl tu le : Nat → Int32) (ch ca : Nat → UInt64) (N M mb ma : Nat) (wa la si bo al : Nat → Int32) (hN : N ≤ 40) (hM : M ≤ 30) (hmb : mb ≤ 30) (hma : ma ≤ 60) (mi : Nat) (hm : mi < M) (j : Nat) (hj : j < N) (hla : la mi = nI j) (hc : zn_p (ca j)) (sz : Nat) : zq_Mi l yX4_back wsX4_back ({ frames := 2, cells := 0, slots := 0, locals := 43 } : Room) (dC, dI) (zq_T cI cZ cD) [.ref (b 0), .int (nI mi)] (wMo b cI cZ cD mt mh (nI N) ki pl tu le ch ca (nI M) wa la si (nI mb) bo (nI ma) al) (mh - si mi) (wMo b cI cZ cD 0 mh (nI N) ki (upd pl j 0) (upd tu j (tu j + 1)) (upd le j (if le j = 0 ∧ ¬ la_rem (tu j + 1) = 0 then 0 else 1)) (vf_upd ch j (if la_gt (ch j) (FP.dmul (ca j) 4606912202822375178) = true then FP.dmul (ca j) 4606912202822375178 else ch j)) (vf_upd ca j (FP.dmul (ca j) 4606912202822375178)) (nI M) wa (upd la mi (-1)) si (nI (cp_k (cp_1 mi) bo mb).2) ((cp_k (cp_1 mi) bo mb).1) (nI (cp_k (cp_2 mi) al ma).2) ((cp_k (cp_2 mi) al ma).1)) sz := by
  refine Met.ofW (cc := cX4_back) (maxL := 3) (ret := (some .int)) (by decide) rfl ?_
  intro p e s m args below meth c s₁ B hml hv
  obtain ⟨rfl, hsz, hP, hK, hD0⟩ := hv
  have hx := B.exec
  have hb := B.bytes
  have hr := B.returns
  have hts := atoms_spec (ws := wsX4_back) B.pre
  have hown : s.vm.findClass RX4 = some m.cls := findClass_of_methodNamed B.named
  have hlocks := B.notSynchronized
  subst hsz
  have hD := hD0.self (sz := s.heap.size)
  generalize hAe : va_A (wMo b cI cZ cD mt mh (nI N) ki pl tu le ch ca (nI M) wa la si (nI mb) bo (nI ma) al) s.heap.size = A at hD ⊢
  have hA : ∀ q : Nat, s.heap.size ≤ q → A q := fun q h => by rw [← hAe]; exact Or.inr h
  have hS : va_S A s.heap s.heap [] := va_S.rf
  have hP : va_P (dC, dI) vwCl (wMo b cI cZ cD mt mh (nI N) ki pl tu le ch ca (nI M) wa la si (nI mb) bo (nI ma) al) s.heap := hP
  have hl := lv_entry ([.ref (b 0), .int (nI mi)]) (n := 3) (Nat.le_of_ble_eq_true rfl)
  rw [lg_entry_eq]
  generalize (lg_sl ([.ref (b 0), .int (nI mi)]) ++ List.replicate (3 - (lg_sl ([.ref (b 0), .int (nI mi)])).length) Slot.unset).toArray = ls at hl ⊢
  have hl : lv_has ls 3 [(0, .ref (b 0)), (1, .int (nI mi))] := hl
  have hf_33 := hts (.fieldLink RX4 33 "LampRoomModel" "lamp" "[I") (by decide +kernel)
  have hin_4 : ∀ w ∈ wsX40, w ∈ wsX4_back := by decide +kernel
  have hf_45 := hts (.fieldLink RX4 45 "LampRoomModel" "thrown" "I") (by decide +kernel)
  have hf_13 := hts (.fieldLink RX4 13 "LampRoomModel" "place" "[I") (by decide +kernel)
  have hf_16 := hts (.fieldLink RX4 16 "LampRoomModel" "turns" "[I") (by decide +kernel)
  have hf_27 := hts (.fieldLink RX4 27 "LampRoomModel" "capacity" "[D") (by decide +kernel)
  have hc_91 := hts (.constantDouble RX4 91 (4606912202822375178)) (by decide +kernel)
  have hf_23 := hts (.fieldLink RX4 23 "LampRoomModel" "charge" "[D") (by decide +kernel)
  have hf_19 := hts (.fieldLink RX4 19 "LampRoomModel" "leaks" "[Z") (by decide +kernel)
  have hf_82 := hts (.fieldLink RX4 82 "LampRoomModel" "hour" "I") (by decide +kernel)
  have hf_36 := hts (.fieldLink RX4 36 "LampRoomModel" "since" "[I") (by decide +kernel)
  refine lv_aload_n hx hb dX4_back_0 rfl (lv_at hl 0 rfl) ?_
  refine lv_aload_n hx hb dX4_back_1 rfl (lv_at hl 0 rfl) ?_
  refine lv_iload_n hx hb dX4_back_2 rfl (lv_at hl 1 rfl) ?_
  refine zq_cVi (As := [.int (nI mi)]) (rest := [.ref (b 0)]) (wc := (wMo b cI cZ cD mt mh (nI N) ki pl tu le ch ca (nI M) wa la si (nI mb) bo (nI ma) al)) (w1 := (wMo b cI cZ cD mt mh (nI N) ki pl tu le ch ca (nI M) wa la si (nI mb) bo (nI ma) al)) (wr := ([] : va_W)) (ws' := (wMo b cI cZ cD mt mh (nI N) ki pl tu le ch ca (nI M) wa la si (nI mb) bo (nI ma) al)) ⟨hx, hb, hml, hown, hts⟩ (c_X4_isMiner l dC dI b cI cZ cD mt mh ki pl tu le ch ca N M mb ma wa la si bo al (by omega) (by omega) (by omega) (by omega) (nI mi) s.heap.size) (cwV 1 hts gX4_back_X4_isMiner rfl rfl rfl (by decide +kernel) ⟨Nat.le_of_ble_eq_true rfl, Nat.le_of_ble_eq_true rfl⟩) hK hP hD hS hA [0, 1, 2, 3, 4, 5, 6, 7, 8, 9, 10, 11] [] [0, 1, 2, 3, 4, 5, 6, 7, 8, 9, 10, 11] rfl rfl rfl rfl (by decide) rfl rfl (ci := 4) rfl 0 rfl rfl hl.1 rfl (Nat.le_of_ble_eq_true rfl) dX4_back_3 ⟨Nat.zero_le _, Nat.zero_le _⟩ (fun H locs hP hD hS => ?_)
  refine lv_if_ne (tgt := 13) hx hb dX4_back_6 (by decide) (fun c_0 => ?_) (fun c_0 => ?_)
  · have d_0 := zb_ne c_0
    refine lv_aload_n hx hb dX4_back_13 rfl (lv_at hl 0 rfl) ?_
    refine va_get (D := (dC, dI)) (ci := 4) (v := .ref (b 8)) (C := RX4) (T := TX4) (N := 17) hx hb hts hin_4 hown hK hP 0 rfl rfl 11 (by decide) hf_33 (fun _ h9 => h9) rfl dX4_back_14 ?_
    refine lv_iload_n hx hb dX4_back_17 rfl (lv_at hl 1 rfl) ?_
    refine zq_iald hx hb hK hP 8 0 rfl rfl (j := mi) (by omega) (by decide) dX4_back_18 ?_
    refine lv_iconst (v := (-1)) hx hb dX4_back_19 (by decide) ?_
    refine lv_icmp_ne (tgt := 27) hx hb dX4_back_20 (by decide) (fun c_1 => ?_) (fun c_1 => ?_)
    · refine lv_iconst (v := 0) hx hb dX4_back_27 (by decide) ?_
      refine va_put (D := (dC, dI)) (ci := 4) (v := .int 0) (ty := .int) (C := RX4) (T := TX4) (N := 17) hx hb hts hin_4 tyX4 tyX4_ok nmX4 hown hK hP hD hS 0 rfl rfl 0 (by decide) hf_45 (fun _ h9 => h9) rfl (by decide +kernel) rfl rfl (Nat.le_of_ble_eq_true rfl) dX4_back_28 (fun H locs hP hD hS => ?_)
      have hP : va_P (dC, dI) vwCl (wMo b cI cZ cD 0 mh (nI N) ki pl tu le ch ca (nI M) wa la si (nI mb) bo (nI ma) al) H := hP
      have hD : va_D A (wMo b cI cZ cD 0 mh (nI N) ki pl tu le ch ca (nI M) wa la si (nI mb) bo (nI ma) al) := hD
      refine lv_aload_n hx hb dX4_back_31 rfl (lv_at hl 0 rfl) ?_
      refine va_get (D := (dC, dI)) (ci := 4) (v := .int 0) (C := RX4) (T := TX4) (N := 17) hx hb hts hin_4 hown hK hP 0 rfl rfl 0 (by decide) hf_45 (fun _ h9 => h9) rfl dX4_back_32 ?_
      refine lv_if_le (tgt := 40) hx hb dX4_back_35 (by decide) (fun _ => ?_) (fun c => absurd c (by decide))
      refine lv_aload_n hx hb dX4_back_40 rfl (lv_at hl 0 rfl) ?_
      refine va_get (D := (dC, dI)) (ci := 4) (v := .ref (b 8)) (C := RX4) (T := TX4) (N := 17) hx hb hts hin_4 hown hK hP 0 rfl rfl 11 (by decide) hf_33 (fun _ h9 => h9) rfl dX4_back_41 ?_
      refine lv_iload_n hx hb dX4_back_44 rfl (lv_at hl 1 rfl) ?_
      refine zq_iald hx hb hK hP 8 0 rfl rfl (j := mi) (by omega) (by decide) dX4_back_45 ?_
      rw [hla]
      refine lv_istore_n (lv' := [(2, .int (nI j)), (0, .ref (b 0)), (1, .int (nI mi))]) hx hb dX4_back_46 rfl hl (by decide) rfl (fun ls hl => ?_)
      refine lv_aload_n hx hb dX4_back_47 rfl (lv_at hl 1 rfl) ?_
      refine va_get (D := (dC, dI)) (ci := 4) (v := .ref (b 2)) (C := RX4) (T := TX4) (N := 17) hx hb hts hin_4 hown hK hP 0 rfl rfl 4 (by decide) hf_13 (fun _ h9 => h9) rfl dX4_back_48 ?_
      refine lv_iload_n hx hb dX4_back_51 rfl (lv_at hl 0 rfl) ?_
      refine lv_iconst (v := 0) hx hb dX4_back_52 (by decide) ?_
      refine zq_iast hx hb hK hP hD hS 2 0 rfl rfl (j := j) (by omega) (by decide) (wMo b cI cZ cD 0 mh (nI N) ki (upd pl j 0) tu le ch ca (nI M) wa la si (nI mb) bo (nI ma) al) rfl dX4_back_53 (fun H locs hP hD hS => ?_)
      refine lv_aload_n hx hb dX4_back_54 rfl (lv_at hl 1 rfl) ?_
      refine va_get (D := (dC, dI)) (ci := 4) (v := .ref (b 3)) (C := RX4) (T := TX4) (N := 17) hx hb hts hin_4 hown hK hP 0 rfl rfl 5 (by decide) hf_16 (fun _ h9 => h9) rfl dX4_back_55 ?_
      refine lv_iload_n hx hb dX4_back_58 rfl (lv_at hl 0 rfl) ?_
      refine lv_dup2_11 hx hb dX4_back_59 rfl rfl ?_
      refine zq_iald hx hb hK hP 3 0 rfl rfl (j := j) (by omega) (by decide) dX4_back_60 ?_
      refine lv_iconst (v := 1) hx hb dX4_back_61 (by decide) ?_
      refine t_iadd hx hb dX4_back_62 (v := (tu j) + 1) (rfl) ?_
      refine zq_iast hx hb hK hP hD hS 3 0 rfl rfl (j := j) (by omega) (by decide) (wMo b cI cZ cD 0 mh (nI N) ki (upd pl j 0) (upd tu j ((tu j) + 1)) le ch ca (nI M) wa la si (nI mb) bo (nI ma) al) rfl dX4_back_63 (fun H locs hP hD hS => ?_)
      refine lv_aload_n hx hb dX4_back_64 rfl (lv_at hl 1 rfl) ?_
      refine va_get (D := (dC, dI)) (ci := 4) (v := .ref (b 6)) (C := RX4) (T := TX4) (N := 17) hx hb hts hin_4 hown hK hP 0 rfl rfl 8 (by decide) hf_27 (fun _ h9 => h9) rfl dX4_back_65 ?_
      refine lv_iload_n hx hb dX4_back_68 rfl (lv_at hl 0 rfl) ?_
      refine lv_aload_n hx hb dX4_back_69 rfl (lv_at hl 1 rfl) ?_
      refine va_get (D := (dC, dI)) (ci := 4) (v := .ref (b 6)) (C := RX4) (T := TX4) (N := 17) hx hb hts hin_4 hown hK hP 0 rfl rfl 8 (by decide) hf_27 (fun _ h9 => h9) rfl dX4_back_70 ?_
      refine lv_iload_n hx hb dX4_back_73 rfl (lv_at hl 0 rfl) ?_
      refine zq_dald hx hb hK hP 6 2 rfl rfl (j := j) (by omega) (by decide) dX4_back_74 ?_
      refine lv_ldc2d hx hb hown hc_91 dX4_back_75 ?_
      refine lv_dmul hx hb dX4_back_78 (zn_n64 (zn_mul97 hc)) ?_
      refine zq_dast hx hb hK hP hD hS 6 2 rfl rfl (j := j) (by omega) (by decide) (wMo b cI cZ cD 0 mh (nI N) ki (upd pl j 0) (upd tu j ((tu j) + 1)) le ch (vf_upd ca j (FP.dmul (ca j) 4606912202822375178)) (nI M) wa la si (nI mb) bo (nI ma) al) rfl dX4_back_79 (fun H locs hP hD hS => ?_)
      refine lv_aload_n hx hb dX4_back_80 rfl (lv_at hl 1 rfl) ?_
      refine va_get (D := (dC, dI)) (ci := 4) (v := .ref (b 5)) (C := RX4) (T := TX4) (N := 17) hx hb hts hin_4 hown hK hP 0 rfl rfl 7 (by decide) hf_23 (fun _ h9 => h9) rfl dX4_back_81 ?_
      refine lv_iload_n hx hb dX4_back_84 rfl (lv_at hl 0 rfl) ?_
      refine lv_aload_n hx hb dX4_back_85 rfl (lv_at hl 1 rfl) ?_
      refine va_get (D := (dC, dI)) (ci := 4) (v := .ref (b 5)) (C := RX4) (T := TX4) (N := 17) hx hb hts hin_4 hown hK hP 0 rfl rfl 7 (by decide) hf_23 (fun _ h9 => h9) rfl dX4_back_86 ?_
      refine lv_iload_n hx hb dX4_back_89 rfl (lv_at hl 0 rfl) ?_
      refine zq_dald hx hb hK hP 5 2 rfl rfl (j := j) (by omega) (by decide) dX4_back_90 ?_
      refine lv_aload_n hx hb dX4_back_91 rfl (lv_at hl 1 rfl) ?_
      refine va_get (D := (dC, dI)) (ci := 4) (v := .ref (b 6)) (C := RX4) (T := TX4) (N := 17) hx hb hts hin_4 hown hK hP 0 rfl rfl 8 (by decide) hf_27 (fun _ h9 => h9) rfl dX4_back_92 ?_
      refine lv_iload_n hx hb dX4_back_95 rfl (lv_at hl 0 rfl) ?_
      refine zq_dald hx hb hK hP 6 2 rfl rfl (j := j) (by omega) (by decide) dX4_back_96 ?_
      rw [zq_vus]
      refine lv_dcmp hx hb dX4_back_97 ?_
      refine lv_if_le (tgt := 110) hx hb dX4_back_98 (by decide) (fun c_2 => ?_) (fun c_2 => ?_)
      · refine lv_aload_n hx hb dX4_back_110 rfl (lv_at hl 1 rfl) ?_
        refine va_get (D := (dC, dI)) (ci := 4) (v := .ref (b 5)) (C := RX4) (T := TX4) (N := 17) hx hb hts hin_4 hown hK hP 0 rfl rfl 7 (by decide) hf_23 (fun _ h9 => h9) rfl dX4_back_111 ?_
        refine lv_iload_n hx hb dX4_back_114 rfl (lv_at hl 0 rfl) ?_
        refine zq_dald hx hb hK hP 5 2 rfl rfl (j := j) (by omega) (by decide) dX4_back_115 ?_
        refine zq_dast hx hb hK hP hD hS 5 2 rfl rfl (j := j) (by omega) (by decide) (wMo b cI cZ cD 0 mh (nI N) ki (upd pl j 0) (upd tu j ((tu j) + 1)) le (vf_upd ch j (ch j)) (vf_upd ca j (FP.dmul (ca j) 4606912202822375178)) (nI M) wa la si (nI mb) bo (nI ma) al) rfl dX4_back_116 (fun H locs hP hD hS => ?_)
        refine lv_aload_n hx hb dX4_back_117 rfl (lv_at hl 1 rfl) ?_
        refine va_get (D := (dC, dI)) (ci := 4) (v := .ref (b 4)) (C := RX4) (T := TX4) (N := 17) hx hb hts hin_4 hown hK hP 0 rfl rfl 6 (by decide) hf_19 (fun _ h9 => h9) rfl dX4_back_118 ?_
        refine lv_iload_n hx hb dX4_back_121 rfl (lv_at hl 0 rfl) ?_
        refine lv_aload_n hx hb dX4_back_122 rfl (lv_at hl 1 rfl) ?_
        refine va_get (D := (dC, dI)) (ci := 4) (v := .ref (b 4)) (C := RX4) (T := TX4) (N := 17) hx hb hts hin_4 hown hK hP 0 rfl rfl 6 (by decide) hf_19 (fun _ h9 => h9) rfl dX4_back_123 ?_
        refine lv_iload_n hx hb dX4_back_126 rfl (lv_at hl 0 rfl) ?_
        refine zq_zald hx hb hK hP 4 1 rfl rfl (j := j) (by omega) (by decide) dX4_back_127 ?_
        refine lv_if_ne (tgt := 143) hx hb dX4_back_128 (by decide) (fun c_3 => ?_) (fun c_3 => ?_)
        · refine lv_iconst (v := 1) hx hb dX4_back_143 (by decide) ?_
          refine lv_goto (tgt := 148) hx hb dX4_back_144 (by decide) ?_
          refine zq_zast hx hb hK hP hD hS 4 1 rfl rfl (j := j) (by omega) (by decide) rfl (wMo b cI cZ cD 0 mh (nI N) ki (upd pl j 0) (upd tu j ((tu j) + 1)) (upd le j 1) (vf_upd ch j (ch j)) (vf_upd ca j (FP.dmul (ca j) 4606912202822375178)) (nI M) wa la si (nI mb) bo (nI ma) al) rfl dX4_back_148 (fun H locs hP hD hS => ?_)
          refine lv_aload_n hx hb dX4_back_149 rfl (lv_at hl 1 rfl) ?_
          refine lv_iload_n hx hb dX4_back_150 rfl (lv_at hl 2 rfl) ?_
          refine zq_cVv (As := [.int (nI mi)]) (rest := []) (wc := (wMo b cI cZ cD 0 mh (nI N) ki (upd pl j 0) (upd tu j ((tu j) + 1)) (upd le j 1) (vf_upd ch j (ch j)) (vf_upd ca j (FP.dmul (ca j) 4606912202822375178)) (nI M) wa la si (nI mb) bo (nI ma) al)) (w1 := (wMo b cI cZ cD 0 mh (nI N) ki (upd pl j 0) (upd tu j ((tu j) + 1)) (upd le j 1) (vf_upd ch j (ch j)) (vf_upd ca j (FP.dmul (ca j) 4606912202822375178)) (nI M) wa (upd la mi (-1)) si (nI (cp_k (cp_1 mi) bo mb).2) ((cp_k (cp_1 mi) bo mb).1) (nI (cp_k (cp_2 mi) al ma).2) ((cp_k (cp_2 mi) al ma).1))) (wr := ([] : va_W)) (ws' := (wMo b cI cZ cD 0 mh (nI N) ki (upd pl j 0) (upd tu j ((tu j) + 1)) (upd le j 1) (vf_upd ch j (ch j)) (vf_upd ca j (FP.dmul (ca j) 4606912202822375178)) (nI M) wa (upd la mi (-1)) si (nI (cp_k (cp_1 mi) bo mb).2) ((cp_k (cp_1 mi) bo mb).1) (nI (cp_k (cp_2 mi) al ma).2) ((cp_k (cp_2 mi) al ma).1))) ⟨hx, hb, hml, hown, hts⟩ (c_X4_comesOff l dC dI b cI cZ cD 0 mh ki (upd pl j 0) (upd tu j ((tu j) + 1)) (upd le j 1) (vf_upd ch j (ch j)) (vf_upd ca j (FP.dmul (ca j) 4606912202822375178)) N M mb ma wa la si bo al (by omega) (by omega) (by omega) (by omega) mi (by omega) H.size) (cwV 1 hts gX4_back_X4_comesOff rfl rfl rfl (by decide +kernel) ⟨Nat.le_of_ble_eq_true rfl, Nat.le_of_ble_eq_true rfl⟩) hK hP hD hS hA [0, 1, 2, 3, 4, 5, 6, 7, 8, 9, 10, 11] [] [0, 1, 2, 3, 4, 5, 6, 7, 8, 9, 10, 11] rfl rfl rfl rfl (by decide) rfl rfl (ci := 4) rfl 0 rfl rfl hl.1 rfl (Nat.le_of_ble_eq_true rfl) dX4_back_151 ⟨Nat.zero_le _, Nat.zero_le _⟩ (fun H locs hP hD hS => ?_)
          refine lv_aload_n hx hb dX4_back_154 rfl (lv_at hl 1 rfl) ?_
          refine va_get (D := (dC, dI)) (ci := 4) (v := .int mh) (C := RX4) (T := TX4) (N := 17) hx hb hts hin_4 hown hK hP 0 rfl rfl 1 (by decide) hf_82 (fun _ h9 => h9) rfl dX4_back_155 ?_
          refine lv_aload_n hx hb dX4_back_158 rfl (lv_at hl 1 rfl) ?_
          refine va_get (D := (dC, dI)) (ci := 4) (v := .ref (b 9)) (C := RX4) (T := TX4) (N := 17) hx hb hts hin_4 hown hK hP 0 rfl rfl 12 (by decide) hf_36 (fun _ h9 => h9) rfl dX4_back_159 ?_
          refine lv_iload_n hx hb dX4_back_162 rfl (lv_at hl 2 rfl) ?_
          refine zq_iald hx hb hK hP 9 0 rfl rfl (j := mi) (by omega) (by decide) dX4_back_163 ?_
          refine t_isub hx hb dX4_back_164 (v := mh - (si mi)) (rfl) ?_
          have e_4 : (upd tu j (tu j + 1)) = (upd tu j ((tu j) + 1)) := by simp [la_rem, la_gt, d_0, c_1, c_2, c_3]
          have e_5 : (upd le j (if le j = 0 ∧ ¬ la_rem (tu j + 1) = 0 then 0 else 1)) = (upd le j 1) := by simp [la_rem, la_gt, d_0, c_1, c_2, c_3]
          have e_6 : (vf_upd ch j (if la_gt (ch j) (FP.dmul (ca j) 4606912202822375178) = true then FP.dmul (ca j) 4606912202822375178 else ch j)) = (vf_upd ch j (ch j)) := by simp [la_rem, la_gt, d_0, c_1, c_2, c_3]
          exact W.iret (v := mh - (si mi)) hx hb hr (zq_qi (by first | with_reducible rfl | simp [d_0, c_1, c_2, c_3]) (by rw [e_4, e_5, e_6]; exact hP) hK (by rw [e_4, e_5, e_6]; exact hD) hS) hS.2.2 dX4_back_165
        · refine lv_aload_n hx hb dX4_back_131 rfl (lv_at hl 1 rfl) ?_
          refine va_get (D := (dC, dI)) (ci := 4) (v := .ref (b 3)) (C := RX4) (T := TX4) (N := 17) hx hb hts hin_4 hown hK hP 0 rfl rfl 5 (by decide) hf_16 (fun _ h9 => h9) rfl dX4_back_132 ?_
          refine lv_iload_n hx hb dX4_back_135 rfl (lv_at hl 0 rfl) ?_
          refine zq_iald hx hb hK hP 3 0 rfl rfl (j := j) (by omega) (by decide) dX4_back_136 ?_
          rw [pk_us]
          refine lv_bipush (v := 7) hx hb dX4_back_137 (by decide) ?_
          refine t_irem hx hb dX4_back_139 (by decide) (v := ((tu j) + 1) - ((tu j) + 1) / 7 * 7) (rfl) ?_
          refine lv_if_ne (tgt := 147) hx hb dX4_back_140 (by decide) (fun c_7 => ?_) (fun c_7 => ?_)
          · refine lv_iconst (v := 0) hx hb dX4_back_147 (by decide) ?_
            refine zq_zast hx hb hK hP hD hS 4 1 rfl rfl (j := j) (by omega) (by decide) rfl (wMo b cI cZ cD 0 mh (nI N) ki (upd pl j 0) (upd tu j ((tu j) + 1)) (upd le j 0) (vf_upd ch j (ch j)) (vf_upd ca j (FP.dmul (ca j) 4606912202822375178)) (nI M) wa la si (nI mb) bo (nI ma) al) rfl dX4_back_148 (fun H locs hP hD hS => ?_)
            refine lv_aload_n hx hb dX4_back_149 rfl (lv_at hl 1 rfl) ?_
            refine lv_iload_n hx hb dX4_back_150 rfl (lv_at hl 2 rfl) ?_
            refine zq_cVv (As := [.int (nI mi)]) (rest := []) (wc := (wMo b cI cZ cD 0 mh (nI N) ki (upd pl j 0) (upd tu j ((tu j) + 1)) (upd le j 0) (vf_upd ch j (ch j)) (vf_upd ca j (FP.dmul (ca j) 4606912202822375178)) (nI M) wa la si (nI mb) bo (nI ma) al)) (w1 := (wMo b cI cZ cD 0 mh (nI N) ki (upd pl j 0) (upd tu j ((tu j) + 1)) (upd le j 0) (vf_upd ch j (ch j)) (vf_upd ca j (FP.dmul (ca j) 4606912202822375178)) (nI M) wa (upd la mi (-1)) si (nI (cp_k (cp_1 mi) bo mb).2) ((cp_k (cp_1 mi) bo mb).1) (nI (cp_k (cp_2 mi) al ma).2) ((cp_k (cp_2 mi) al ma).1))) (wr := ([] : va_W)) (ws' := (wMo b cI cZ cD 0 mh (nI N) ki (upd pl j 0) (upd tu j ((tu j) + 1)) (upd le j 0) (vf_upd ch j (ch j)) (vf_upd ca j (FP.dmul (ca j) 4606912202822375178)) (nI M) wa (upd la mi (-1)) si (nI (cp_k (cp_1 mi) bo mb).2) ((cp_k (cp_1 mi) bo mb).1) (nI (cp_k (cp_2 mi) al ma).2) ((cp_k (cp_2 mi) al ma).1))) ⟨hx, hb, hml, hown, hts⟩ (c_X4_comesOff l dC dI b cI cZ cD 0 mh ki (upd pl j 0) (upd tu j ((tu j) + 1)) (upd le j 0) (vf_upd ch j (ch j)) (vf_upd ca j (FP.dmul (ca j) 4606912202822375178)) N M mb ma wa la si bo al (by omega) (by omega) (by omega) (by omega) mi (by omega) H.size) (cwV 1 hts gX4_back_X4_comesOff rfl rfl rfl (by decide +kernel) ⟨Nat.le_of_ble_eq_true rfl, Nat.le_of_ble_eq_true rfl⟩) hK hP hD hS hA [0, 1, 2, 3, 4, 5, 6, 7, 8, 9, 10, 11] [] [0, 1, 2, 3, 4, 5, 6, 7, 8, 9, 10, 11] rfl rfl rfl rfl (by decide) rfl rfl (ci := 4) rfl 0 rfl rfl hl.1 rfl (Nat.le_of_ble_eq_true rfl) dX4_back_151 ⟨Nat.zero_le _, Nat.zero_le _⟩ (fun H locs hP hD hS => ?_)
            refine lv_aload_n hx hb dX4_back_154 rfl (lv_at hl 1 rfl) ?_
            refine va_get (D := (dC, dI)) (ci := 4) (v := .int mh) (C := RX4) (T := TX4) (N := 17) hx hb hts hin_4 hown hK hP 0 rfl rfl 1 (by decide) hf_82 (fun _ h9 => h9) rfl dX4_back_155 ?_
            refine lv_aload_n hx hb dX4_back_158 rfl (lv_at hl 1 rfl) ?_
            refine va_get (D := (dC, dI)) (ci := 4) (v := .ref (b 9)) (C := RX4) (T := TX4) (N := 17) hx hb hts hin_4 hown hK hP 0 rfl rfl 12 (by decide) hf_36 (fun _ h9 => h9) rfl dX4_back_159 ?_
            refine lv_iload_n hx hb dX4_back_162 rfl (lv_at hl 2 rfl) ?_
            refine zq_iald hx hb hK hP 9 0 rfl rfl (j := mi) (by omega) (by decide) dX4_back_163 ?_
            refine t_isub hx hb dX4_back_164 (v := mh - (si mi)) (rfl) ?_
            have e_8 : (upd tu j (tu j + 1)) = (upd tu j ((tu j) + 1)) := by simp [la_rem, la_gt, d_0, c_1, c_2, c_3, c_7]
            have e_9 : (upd le j (if le j = 0 ∧ ¬ la_rem (tu j + 1) = 0 then 0 else 1)) = (upd le j 0) := by simp [la_rem, la_gt, d_0, c_1, c_2, c_3, c_7]
            have e_10 : (vf_upd ch j (if la_gt (ch j) (FP.dmul (ca j) 4606912202822375178) = true then FP.dmul (ca j) 4606912202822375178 else ch j)) = (vf_upd ch j (ch j)) := by simp [la_rem, la_gt, d_0, c_1, c_2, c_3, c_7]
            exact W.iret (v := mh - (si mi)) hx hb hr (zq_qi (by first | with_reducible rfl | simp [d_0, c_1, c_2, c_3, c_7]) (by rw [e_8, e_9, e_10]; exact hP) hK (by rw [e_8, e_9, e_10]; exact hD) hS) hS.2.2 dX4_back_165
          · refine lv_iconst (v := 1) hx hb dX4_back_143 (by decide) ?_
            refine lv_goto (tgt := 148) hx hb dX4_back_144 (by decide) ?_
            refine zq_zast hx hb hK hP hD hS 4 1 rfl rfl (j := j) (by omega) (by decide) rfl (wMo b cI cZ cD 0 mh (nI N) ki (upd pl j 0) (upd tu j ((tu j) + 1)) (upd le j 1) (vf_upd ch j (ch j)) (vf_upd ca j (FP.dmul (ca j) 4606912202822375178)) (nI M) wa la si (nI mb) bo (nI ma) al) rfl dX4_back_148 (fun H locs hP hD hS => ?_)
            refine lv_aload_n hx hb dX4_back_149 rfl (lv_at hl 1 rfl) ?_
            refine lv_iload_n hx hb dX4_back_150 rfl (lv_at hl 2 rfl) ?_
            refine zq_cVv (As := [.int (nI mi)]) (rest := []) (wc := (wMo b cI cZ cD 0 mh (nI N) ki (upd pl j 0) (upd tu j ((tu j) + 1)) (upd le j 1) (vf_upd ch j (ch j)) (vf_upd ca j (FP.dmul (ca j) 4606912202822375178)) (nI M) wa la si (nI mb) bo (nI ma) al)) (w1 := (wMo b cI cZ cD 0 mh (nI N) ki (upd pl j 0) (upd tu j ((tu j) + 1)) (upd le j 1) (vf_upd ch j (ch j)) (vf_upd ca j (FP.dmul (ca j) 4606912202822375178)) (nI M) wa (upd la mi (-1)) si (nI (cp_k (cp_1 mi) bo mb).2) ((cp_k (cp_1 mi) bo mb).1) (nI (cp_k (cp_2 mi) al ma).2) ((cp_k (cp_2 mi) al ma).1))) (wr := ([] : va_W)) (ws' := (wMo b cI cZ cD 0 mh (nI N) ki (upd pl j 0) (upd tu j ((tu j) + 1)) (upd le j 1) (vf_upd ch j (ch j)) (vf_upd ca j (FP.dmul (ca j) 4606912202822375178)) (nI M) wa (upd la mi (-1)) si (nI (cp_k (cp_1 mi) bo mb).2) ((cp_k (cp_1 mi) bo mb).1) (nI (cp_k (cp_2 mi) al ma).2) ((cp_k (cp_2 mi) al ma).1))) ⟨hx, hb, hml, hown, hts⟩ (c_X4_comesOff l dC dI b cI cZ cD 0 mh ki (upd pl j 0) (upd tu j ((tu j) + 1)) (upd le j 1) (vf_upd ch j (ch j)) (vf_upd ca j (FP.dmul (ca j) 4606912202822375178)) N M mb ma wa la si bo al (by omega) (by omega) (by omega) (by omega) mi (by omega) H.size) (cwV 1 hts gX4_back_X4_comesOff rfl rfl rfl (by decide +kernel) ⟨Nat.le_of_ble_eq_true rfl, Nat.le_of_ble_eq_true rfl⟩) hK hP hD hS hA [0, 1, 2, 3, 4, 5, 6, 7, 8, 9, 10, 11] [] [0, 1, 2, 3, 4, 5, 6, 7, 8, 9, 10, 11] rfl rfl rfl rfl (by decide) rfl rfl (ci := 4) rfl 0 rfl rfl hl.1 rfl (Nat.le_of_ble_eq_true rfl) dX4_back_151 ⟨Nat.zero_le _, Nat.zero_le _⟩ (fun H locs hP hD hS => ?_)
            refine lv_aload_n hx hb dX4_back_154 rfl (lv_at hl 1 rfl) ?_
            refine va_get (D := (dC, dI)) (ci := 4) (v := .int mh) (C := RX4) (T := TX4) (N := 17) hx hb hts hin_4 hown hK hP 0 rfl rfl 1 (by decide) hf_82 (fun _ h9 => h9) rfl dX4_back_155 ?_
            refine lv_aload_n hx hb dX4_back_158 rfl (lv_at hl 1 rfl) ?_
            refine va_get (D := (dC, dI)) (ci := 4) (v := .ref (b 9)) (C := RX4) (T := TX4) (N := 17) hx hb hts hin_4 hown hK hP 0 rfl rfl 12 (by decide) hf_36 (fun _ h9 => h9) rfl dX4_back_159 ?_
            refine lv_iload_n hx hb dX4_back_162 rfl (lv_at hl 2 rfl) ?_
            refine zq_iald hx hb hK hP 9 0 rfl rfl (j := mi) (by omega) (by decide) dX4_back_163 ?_
            refine t_isub hx hb dX4_back_164 (v := mh - (si mi)) (rfl) ?_
            have e_11 : (upd tu j (tu j + 1)) = (upd tu j ((tu j) + 1)) := by simp [la_rem, la_gt, d_0, c_1, c_2, c_3, c_7]
            have e_12 : (upd le j (if le j = 0 ∧ ¬ la_rem (tu j + 1) = 0 then 0 else 1)) = (upd le j 1) := by simp [la_rem, la_gt, d_0, c_1, c_2, c_3, c_7]
            have e_13 : (vf_upd ch j (if la_gt (ch j) (FP.dmul (ca j) 4606912202822375178) = true then FP.dmul (ca j) 4606912202822375178 else ch j)) = (vf_upd ch j (ch j)) := by simp [la_rem, la_gt, d_0, c_1, c_2, c_3, c_7]
            exact W.iret (v := mh - (si mi)) hx hb hr (zq_qi (by first | with_reducible rfl | simp [d_0, c_1, c_2, c_3, c_7]) (by rw [e_11, e_12, e_13]; exact hP) hK (by rw [e_11, e_12, e_13]; exact hD) hS) hS.2.2 dX4_back_165
      · refine lv_aload_n hx hb dX4_back_101 rfl (lv_at hl 1 rfl) ?_
        refine va_get (D := (dC, dI)) (ci := 4) (v := .ref (b 6)) (C := RX4) (T := TX4) (N := 17) hx hb hts hin_4 hown hK hP 0 rfl rfl 8 (by decide) hf_27 (fun _ h9 => h9) rfl dX4_back_102 ?_
        refine lv_iload_n hx hb dX4_back_105 rfl (lv_at hl 0 rfl) ?_
        refine zq_dald hx hb hK hP 6 2 rfl rfl (j := j) (by omega) (by decide) dX4_back_106 ?_
        rw [zq_vus]
        refine lv_goto (tgt := 116) hx hb dX4_back_107 (by decide) ?_
        refine zq_dast hx hb hK hP hD hS 5 2 rfl rfl (j := j) (by omega) (by decide) (wMo b cI cZ cD 0 mh (nI N) ki (upd pl j 0) (upd tu j ((tu j) + 1)) le (vf_upd ch j (FP.dmul (ca j) 4606912202822375178)) (vf_upd ca j (FP.dmul (ca j) 4606912202822375178)) (nI M) wa la si (nI mb) bo (nI ma) al) rfl dX4_back_116 (fun H locs hP hD hS => ?_)
        refine lv_aload_n hx hb dX4_back_117 rfl (lv_at hl 1 rfl) ?_
        refine va_get (D := (dC, dI)) (ci := 4) (v := .ref (b 4)) (C := RX4) (T := TX4) (N := 17) hx hb hts hin_4 hown hK hP 0 rfl rfl 6 (by decide) hf_19 (fun _ h9 => h9) rfl dX4_back_118 ?_
        refine lv_iload_n hx hb dX4_back_121 rfl (lv_at hl 0 rfl) ?_
        refine lv_aload_n hx hb dX4_back_122 rfl (lv_at hl 1 rfl) ?_
        refine va_get (D := (dC, dI)) (ci := 4) (v := .ref (b 4)) (C := RX4) (T := TX4) (N := 17) hx hb hts hin_4 hown hK hP 0 rfl rfl 6 (by decide) hf_19 (fun _ h9 => h9) rfl dX4_back_123 ?_
        refine lv_iload_n hx hb dX4_back_126 rfl (lv_at hl 0 rfl) ?_
        refine zq_zald hx hb hK hP 4 1 rfl rfl (j := j) (by omega) (by decide) dX4_back_127 ?_
        refine lv_if_ne (tgt := 143) hx hb dX4_back_128 (by decide) (fun c_14 => ?_) (fun c_14 => ?_)
        · refine lv_iconst (v := 1) hx hb dX4_back_143 (by decide) ?_
          refine lv_goto (tgt := 148) hx hb dX4_back_144 (by decide) ?_
          refine zq_zast hx hb hK hP hD hS 4 1 rfl rfl (j := j) (by omega) (by decide) rfl (wMo b cI cZ cD 0 mh (nI N) ki (upd pl j 0) (upd tu j ((tu j) + 1)) (upd le j 1) (vf_upd ch j (FP.dmul (ca j) 4606912202822375178)) (vf_upd ca j (FP.dmul (ca j) 4606912202822375178)) (nI M) wa la si (nI mb) bo (nI ma) al) rfl dX4_back_148 (fun H locs hP hD hS => ?_)
          refine lv_aload_n hx hb dX4_back_149 rfl (lv_at hl 1 rfl) ?_
          refine lv_iload_n hx hb dX4_back_150 rfl (lv_at hl 2 rfl) ?_
          refine zq_cVv (As := [.int (nI mi)]) (rest := []) (wc := (wMo b cI cZ cD 0 mh (nI N) ki (upd pl j 0) (upd tu j ((tu j) + 1)) (upd le j 1) (vf_upd ch j (FP.dmul (ca j) 4606912202822375178)) (vf_upd ca j (FP.dmul (ca j) 4606912202822375178)) (nI M) wa la si (nI mb) bo (nI ma) al)) (w1 := (wMo b cI cZ cD 0 mh (nI N) ki (upd pl j 0) (upd tu j ((tu j) + 1)) (upd le j 1) (vf_upd ch j (FP.dmul (ca j) 4606912202822375178)) (vf_upd ca j (FP.dmul (ca j) 4606912202822375178)) (nI M) wa (upd la mi (-1)) si (nI (cp_k (cp_1 mi) bo mb).2) ((cp_k (cp_1 mi) bo mb).1) (nI (cp_k (cp_2 mi) al ma).2) ((cp_k (cp_2 mi) al ma).1))) (wr := ([] : va_W)) (ws' := (wMo b cI cZ cD 0 mh (nI N) ki (upd pl j 0) (upd tu j ((tu j) + 1)) (upd le j 1) (vf_upd ch j (FP.dmul (ca j) 4606912202822375178)) (vf_upd ca j (FP.dmul (ca j) 4606912202822375178)) (nI M) wa (upd la mi (-1)) si (nI (cp_k (cp_1 mi) bo mb).2) ((cp_k (cp_1 mi) bo mb).1) (nI (cp_k (cp_2 mi) al ma).2) ((cp_k (cp_2 mi) al ma).1))) ⟨hx, hb, hml, hown, hts⟩ (c_X4_comesOff l dC dI b cI cZ cD 0 mh ki (upd pl j 0) (upd tu j ((tu j) + 1)) (upd le j 1) (vf_upd ch j (FP.dmul (ca j) 4606912202822375178)) (vf_upd ca j (FP.dmul (ca j) 4606912202822375178)) N M mb ma wa la si bo al (by omega) (by omega) (by omega) (by omega) mi (by omega) H.size) (cwV 1 hts gX4_back_X4_comesOff rfl rfl rfl (by decide +kernel) ⟨Nat.le_of_ble_eq_true rfl, Nat.le_of_ble_eq_true rfl⟩) hK hP hD hS hA [0, 1, 2, 3, 4, 5, 6, 7, 8, 9, 10, 11] [] [0, 1, 2, 3, 4, 5, 6, 7, 8, 9, 10, 11] rfl rfl rfl rfl (by decide) rfl rfl (ci := 4) rfl 0 rfl rfl hl.1 rfl (Nat.le_of_ble_eq_true rfl) dX4_back_151 ⟨Nat.zero_le _, Nat.zero_le _⟩ (fun H locs hP hD hS => ?_)
          refine lv_aload_n hx hb dX4_back_154 rfl (lv_at hl 1 rfl) ?_
          refine va_get (D := (dC, dI)) (ci := 4) (v := .int mh) (C := RX4) (T := TX4) (N := 17) hx hb hts hin_4 hown hK hP 0 rfl rfl 1 (by decide) hf_82 (fun _ h9 => h9) rfl dX4_back_155 ?_
          refine lv_aload_n hx hb dX4_back_158 rfl (lv_at hl 1 rfl) ?_
          refine va_get (D := (dC, dI)) (ci := 4) (v := .ref (b 9)) (C := RX4) (T := TX4) (N := 17) hx hb hts hin_4 hown hK hP 0 rfl rfl 12 (by decide) hf_36 (fun _ h9 => h9) rfl dX4_back_159 ?_
          refine lv_iload_n hx hb dX4_back_162 rfl (lv_at hl 2 rfl) ?_
          refine zq_iald hx hb hK hP 9 0 rfl rfl (j := mi) (by omega) (by decide) dX4_back_163 ?_
          refine t_isub hx hb dX4_back_164 (v := mh - (si mi)) (rfl) ?_
          have e_15 : (upd tu j (tu j + 1)) = (upd tu j ((tu j) + 1)) := by simp [la_rem, la_gt, d_0, c_1, c_2, c_14]
          have e_16 : (upd le j (if le j = 0 ∧ ¬ la_rem (tu j + 1) = 0 then 0 else 1)) = (upd le j 1) := by simp [la_rem, la_gt, d_0, c_1, c_2, c_14]
          have e_17 : (vf_upd ch j (if la_gt (ch j) (FP.dmul (ca j) 4606912202822375178) = true then FP.dmul (ca j) 4606912202822375178 else ch j)) = (vf_upd ch j (FP.dmul (ca j) 4606912202822375178)) := by simp [la_rem, la_gt, d_0, c_1, c_2, c_14]
          exact W.iret (v := mh - (si mi)) hx hb hr (zq_qi (by first | with_reducible rfl | simp [d_0, c_1, c_2, c_14]) (by rw [e_15, e_16, e_17]; exact hP) hK (by rw [e_15, e_16, e_17]; exact hD) hS) hS.2.2 dX4_back_165
        · refine lv_aload_n hx hb dX4_back_131 rfl (lv_at hl 1 rfl) ?_
          refine va_get (D := (dC, dI)) (ci := 4) (v := .ref (b 3)) (C := RX4) (T := TX4) (N := 17) hx hb hts hin_4 hown hK hP 0 rfl rfl 5 (by decide) hf_16 (fun _ h9 => h9) rfl dX4_back_132 ?_
          refine lv_iload_n hx hb dX4_back_135 rfl (lv_at hl 0 rfl) ?_
          refine zq_iald hx hb hK hP 3 0 rfl rfl (j := j) (by omega) (by decide) dX4_back_136 ?_
          rw [pk_us]
          refine lv_bipush (v := 7) hx hb dX4_back_137 (by decide) ?_
          refine t_irem hx hb dX4_back_139 (by decide) (v := ((tu j) + 1) - ((tu j) + 1) / 7 * 7) (rfl) ?_
          refine lv_if_ne (tgt := 147) hx hb dX4_back_140 (by decide) (fun c_18 => ?_) (fun c_18 => ?_)
          · refine lv_iconst (v := 0) hx hb dX4_back_147 (by decide) ?_
            refine zq_zast hx hb hK hP hD hS 4 1 rfl rfl (j := j) (by omega) (by decide) rfl (wMo b cI cZ cD 0 mh (nI N) ki (upd pl j 0) (upd tu j ((tu j) + 1)) (upd le j 0) (vf_upd ch j (FP.dmul (ca j) 4606912202822375178)) (vf_upd ca j (FP.dmul (ca j) 4606912202822375178)) (nI M) wa la si (nI mb) bo (nI ma) al) rfl dX4_back_148 (fun H locs hP hD hS => ?_)
            refine lv_aload_n hx hb dX4_back_149 rfl (lv_at hl 1 rfl) ?_
            refine lv_iload_n hx hb dX4_back_150 rfl (lv_at hl 2 rfl) ?_
            refine zq_cVv (As := [.int (nI mi)]) (rest := []) (wc := (wMo b cI cZ cD 0 mh (nI N) ki (upd pl j 0) (upd tu j ((tu j) + 1)) (upd le j 0) (vf_upd ch j (FP.dmul (ca j) 4606912202822375178)) (vf_upd ca j (FP.dmul (ca j) 4606912202822375178)) (nI M) wa la si (nI mb) bo (nI ma) al)) (w1 := (wMo b cI cZ cD 0 mh (nI N) ki (upd pl j 0) (upd tu j ((tu j) + 1)) (upd le j 0) (vf_upd ch j (FP.dmul (ca j) 4606912202822375178)) (vf_upd ca j (FP.dmul (ca j) 4606912202822375178)) (nI M) wa (upd la mi (-1)) si (nI (cp_k (cp_1 mi) bo mb).2) ((cp_k (cp_1 mi) bo mb).1) (nI (cp_k (cp_2 mi) al ma).2) ((cp_k (cp_2 mi) al ma).1))) (wr := ([] : va_W)) (ws' := (wMo b cI cZ cD 0 mh (nI N) ki (upd pl j 0) (upd tu j ((tu j) + 1)) (upd le j 0) (vf_upd ch j (FP.dmul (ca j) 4606912202822375178)) (vf_upd ca j (FP.dmul (ca j) 4606912202822375178)) (nI M) wa (upd la mi (-1)) si (nI (cp_k (cp_1 mi) bo mb).2) ((cp_k (cp_1 mi) bo mb).1) (nI (cp_k (cp_2 mi) al ma).2) ((cp_k (cp_2 mi) al ma).1))) ⟨hx, hb, hml, hown, hts⟩ (c_X4_comesOff l dC dI b cI cZ cD 0 mh ki (upd pl j 0) (upd tu j ((tu j) + 1)) (upd le j 0) (vf_upd ch j (FP.dmul (ca j) 4606912202822375178)) (vf_upd ca j (FP.dmul (ca j) 4606912202822375178)) N M mb ma wa la si bo al (by omega) (by omega) (by omega) (by omega) mi (by omega) H.size) (cwV 1 hts gX4_back_X4_comesOff rfl rfl rfl (by decide +kernel) ⟨Nat.le_of_ble_eq_true rfl, Nat.le_of_ble_eq_true rfl⟩) hK hP hD hS hA [0, 1, 2, 3, 4, 5, 6, 7, 8, 9, 10, 11] [] [0, 1, 2, 3, 4, 5, 6, 7, 8, 9, 10, 11] rfl rfl rfl rfl (by decide) rfl rfl (ci := 4) rfl 0 rfl rfl hl.1 rfl (Nat.le_of_ble_eq_true rfl) dX4_back_151 ⟨Nat.zero_le _, Nat.zero_le _⟩ (fun H locs hP hD hS => ?_)
            refine lv_aload_n hx hb dX4_back_154 rfl (lv_at hl 1 rfl) ?_
            refine va_get (D := (dC, dI)) (ci := 4) (v := .int mh) (C := RX4) (T := TX4) (N := 17) hx hb hts hin_4 hown hK hP 0 rfl rfl 1 (by decide) hf_82 (fun _ h9 => h9) rfl dX4_back_155 ?_
            refine lv_aload_n hx hb dX4_back_158 rfl (lv_at hl 1 rfl) ?_
            refine va_get (D := (dC, dI)) (ci := 4) (v := .ref (b 9)) (C := RX4) (T := TX4) (N := 17) hx hb hts hin_4 hown hK hP 0 rfl rfl 12 (by decide) hf_36 (fun _ h9 => h9) rfl dX4_back_159 ?_
            refine lv_iload_n hx hb dX4_back_162 rfl (lv_at hl 2 rfl) ?_
            refine zq_iald hx hb hK hP 9 0 rfl rfl (j := mi) (by omega) (by decide) dX4_back_163 ?_
            refine t_isub hx hb dX4_back_164 (v := mh - (si mi)) (rfl) ?_
            have e_19 : (upd tu j (tu j + 1)) = (upd tu j ((tu j) + 1)) := by simp [la_rem, la_gt, d_0, c_1, c_2, c_14, c_18]
            have e_20 : (upd le j (if le j = 0 ∧ ¬ la_rem (tu j + 1) = 0 then 0 else 1)) = (upd le j 0) := by simp [la_rem, la_gt, d_0, c_1, c_2, c_14, c_18]
            have e_21 : (vf_upd ch j (if la_gt (ch j) (FP.dmul (ca j) 4606912202822375178) = true then FP.dmul (ca j) 4606912202822375178 else ch j)) = (vf_upd ch j (FP.dmul (ca j) 4606912202822375178)) := by simp [la_rem, la_gt, d_0, c_1, c_2, c_14, c_18]
            exact W.iret (v := mh - (si mi)) hx hb hr (zq_qi (by first | with_reducible rfl | simp [d_0, c_1, c_2, c_14, c_18]) (by rw [e_19, e_20, e_21]; exact hP) hK (by rw [e_19, e_20, e_21]; exact hD) hS) hS.2.2 dX4_back_165
          · refine lv_iconst (v := 1) hx hb dX4_back_143 (by decide) ?_
            refine lv_goto (tgt := 148) hx hb dX4_back_144 (by decide) ?_
            refine zq_zast hx hb hK hP hD hS 4 1 rfl rfl (j := j) (by omega) (by decide) rfl (wMo b cI cZ cD 0 mh (nI N) ki (upd pl j 0) (upd tu j ((tu j) + 1)) (upd le j 1) (vf_upd ch j (FP.dmul (ca j) 4606912202822375178)) (vf_upd ca j (FP.dmul (ca j) 4606912202822375178)) (nI M) wa la si (nI mb) bo (nI ma) al) rfl dX4_back_148 (fun H locs hP hD hS => ?_)
            refine lv_aload_n hx hb dX4_back_149 rfl (lv_at hl 1 rfl) ?_
            refine lv_iload_n hx hb dX4_back_150 rfl (lv_at hl 2 rfl) ?_
            refine zq_cVv (As := [.int (nI mi)]) (rest := []) (wc := (wMo b cI cZ cD 0 mh (nI N) ki (upd pl j 0) (upd tu j ((tu j) + 1)) (upd le j 1) (vf_upd ch j (FP.dmul (ca j) 4606912202822375178)) (vf_upd ca j (FP.dmul (ca j) 4606912202822375178)) (nI M) wa la si (nI mb) bo (nI ma) al)) (w1 := (wMo b cI cZ cD 0 mh (nI N) ki (upd pl j 0) (upd tu j ((tu j) + 1)) (upd le j 1) (vf_upd ch j (FP.dmul (ca j) 4606912202822375178)) (vf_upd ca j (FP.dmul (ca j) 4606912202822375178)) (nI M) wa (upd la mi (-1)) si (nI (cp_k (cp_1 mi) bo mb).2) ((cp_k (cp_1 mi) bo mb).1) (nI (cp_k (cp_2 mi) al ma).2) ((cp_k (cp_2 mi) al ma).1))) (wr := ([] : va_W)) (ws' := (wMo b cI cZ cD 0 mh (nI N) ki (upd pl j 0) (upd tu j ((tu j) + 1)) (upd le j 1) (vf_upd ch j (FP.dmul (ca j) 4606912202822375178)) (vf_upd ca j (FP.dmul (ca j) 4606912202822375178)) (nI M) wa (upd la mi (-1)) si (nI (cp_k (cp_1 mi) bo mb).2) ((cp_k (cp_1 mi) bo mb).1) (nI (cp_k (cp_2 mi) al ma).2) ((cp_k (cp_2 mi) al ma).1))) ⟨hx, hb, hml, hown, hts⟩ (c_X4_comesOff l dC dI b cI cZ cD 0 mh ki (upd pl j 0) (upd tu j ((tu j) + 1)) (upd le j 1) (vf_upd ch j (FP.dmul (ca j) 4606912202822375178)) (vf_upd ca j (FP.dmul (ca j) 4606912202822375178)) N M mb ma wa la si bo al (by omega) (by omega) (by omega) (by omega) mi (by omega) H.size) (cwV 1 hts gX4_back_X4_comesOff rfl rfl rfl (by decide +kernel) ⟨Nat.le_of_ble_eq_true rfl, Nat.le_of_ble_eq_true rfl⟩) hK hP hD hS hA [0, 1, 2, 3, 4, 5, 6, 7, 8, 9, 10, 11] [] [0, 1, 2, 3, 4, 5, 6, 7, 8, 9, 10, 11] rfl rfl rfl rfl (by decide) rfl rfl (ci := 4) rfl 0 rfl rfl hl.1 rfl (Nat.le_of_ble_eq_true rfl) dX4_back_151 ⟨Nat.zero_le _, Nat.zero_le _⟩ (fun H locs hP hD hS => ?_)
            refine lv_aload_n hx hb dX4_back_154 rfl (lv_at hl 1 rfl) ?_
            refine va_get (D := (dC, dI)) (ci := 4) (v := .int mh) (C := RX4) (T := TX4) (N := 17) hx hb hts hin_4 hown hK hP 0 rfl rfl 1 (by decide) hf_82 (fun _ h9 => h9) rfl dX4_back_155 ?_
            refine lv_aload_n hx hb dX4_back_158 rfl (lv_at hl 1 rfl) ?_
            refine va_get (D := (dC, dI)) (ci := 4) (v := .ref (b 9)) (C := RX4) (T := TX4) (N := 17) hx hb hts hin_4 hown hK hP 0 rfl rfl 12 (by decide) hf_36 (fun _ h9 => h9) rfl dX4_back_159 ?_
            refine lv_iload_n hx hb dX4_back_162 rfl (lv_at hl 2 rfl) ?_
            refine zq_iald hx hb hK hP 9 0 rfl rfl (j := mi) (by omega) (by decide) dX4_back_163 ?_
            refine t_isub hx hb dX4_back_164 (v := mh - (si mi)) (rfl) ?_
            have e_22 : (upd tu j (tu j + 1)) = (upd tu j ((tu j) + 1)) := by simp [la_rem, la_gt, d_0, c_1, c_2, c_14, c_18]
            have e_23 : (upd le j (if le j = 0 ∧ ¬ la_rem (tu j + 1) = 0 then 0 else 1)) = (upd le j 1) := by simp [la_rem, la_gt, d_0, c_1, c_2, c_14, c_18]
            have e_24 : (vf_upd ch j (if la_gt (ch j) (FP.dmul (ca j) 4606912202822375178) = true then FP.dmul (ca j) 4606912202822375178 else ch j)) = (vf_upd ch j (FP.dmul (ca j) 4606912202822375178)) := by simp [la_rem, la_gt, d_0, c_1, c_2, c_14, c_18]
            exact W.iret (v := mh - (si mi)) hx hb hr (zq_qi (by first | with_reducible rfl | simp [d_0, c_1, c_2, c_14, c_18]) (by rw [e_22, e_23, e_24]; exact hP) hK (by rw [e_22, e_23, e_24]; exact hD) hS) hS.2.2 dX4_back_165
    · exact absurd (hla.symm.trans c_1) (nI_nm1 (by omega))
  · have d_0 := zb_eq c_0
    exact absurd (in_b_ok hm (by omega)) (by rw [d_0]; decide)

set_option maxHeartbeats 4000000 in
set_option maxRecDepth 100000 in
theorem c_X4_test_bad (l : Launch) (dC : Nat → ClassId) (dI : Nat → Nat → Nat) (b : Nat → Nat) (cI cZ cD : ClassId) (mt mh : Int32) (ki pl tu le : Nat → Int32) (ch ca : Nat → UInt64) (N M mb ma : Nat) (wa la si bo al : Nat → Int32) (hN : N ≤ 40) (hM : M ≤ 30) (hmb : mb ≤ 30) (hma : ma ≤ 60) (x : Int32) (hx0 : in_b x 0 (nI N - 1) = false) (sz : Nat) : zq_Mi l yX4_test wsX4_test ({ frames := 2, cells := 0, slots := 0, locals := 43 } : Room) (dC, dI) (zq_T cI cZ cD) [.ref (b 0), .int x] (wMo b cI cZ cD mt mh (nI N) ki pl tu le ch ca (nI M) wa la si (nI mb) bo (nI ma) al) 0 (wMo b cI cZ cD 1 mh (nI N) ki pl tu le ch ca (nI M) wa la si (nI mb) bo (nI ma) al) sz := by
  refine Met.ofW (cc := cX4_test) (maxL := 3) (ret := (some .int)) (by decide) rfl ?_
  intro p e s m args below meth c s₁ B hml hv
  obtain ⟨rfl, hsz, hP, hK, hD0⟩ := hv
  have hx := B.exec
  have hb := B.bytes
  have hr := B.returns
  have hts := atoms_spec (ws := wsX4_test) B.pre
  have hown : s.vm.findClass RX4 = some m.cls := findClass_of_methodNamed B.named
  have hlocks := B.notSynchronized
  subst hsz
  have hD := hD0.self (sz := s.heap.size)
  generalize hAe : va_A (wMo b cI cZ cD mt mh (nI N) ki pl tu le ch ca (nI M) wa la si (nI mb) bo (nI ma) al) s.heap.size = A at hD ⊢
  have hA : ∀ q : Nat, s.heap.size ≤ q → A q := fun q h => by rw [← hAe]; exact Or.inr h
  have hS : va_S A s.heap s.heap [] := va_S.rf
  have hP : va_P (dC, dI) vwCl (wMo b cI cZ cD mt mh (nI N) ki pl tu le ch ca (nI M) wa la si (nI mb) bo (nI ma) al) s.heap := hP
  have hl := lv_entry ([.ref (b 0), .int x]) (n := 3) (Nat.le_of_ble_eq_true rfl)
  rw [lg_entry_eq]
  generalize (lg_sl ([.ref (b 0), .int x]) ++ List.replicate (3 - (lg_sl ([.ref (b 0), .int x])).length) Slot.unset).toArray = ls at hl ⊢
  have hl : lv_has ls 3 [(0, .ref (b 0)), (1, .int x)] := hl
  have hf_45 := hts (.fieldLink RX4 45 "LampRoomModel" "thrown" "I") (by decide +kernel)
  have hin_4 : ∀ w ∈ wsX40, w ∈ wsX4_test := by decide +kernel
  refine lv_aload_n hx hb dX4_test_0 rfl (lv_at hl 0 rfl) ?_
  refine lv_aload_n hx hb dX4_test_1 rfl (lv_at hl 0 rfl) ?_
  refine lv_iload_n hx hb dX4_test_2 rfl (lv_at hl 1 rfl) ?_
  refine zq_cVi (As := [.int x]) (rest := [.ref (b 0)]) (wc := (wMo b cI cZ cD mt mh (nI N) ki pl tu le ch ca (nI M) wa la si (nI mb) bo (nI ma) al)) (w1 := (wMo b cI cZ cD mt mh (nI N) ki pl tu le ch ca (nI M) wa la si (nI mb) bo (nI ma) al)) (wr := ([] : va_W)) (ws' := (wMo b cI cZ cD mt mh (nI N) ki pl tu le ch ca (nI M) wa la si (nI mb) bo (nI ma) al)) ⟨hx, hb, hml, hown, hts⟩ (c_X4_isLamp l dC dI b cI cZ cD mt mh ki pl tu le ch ca N M mb ma wa la si bo al (by omega) (by omega) (by omega) (by omega) x s.heap.size) (cwV 1 hts gX4_test_X4_isLamp rfl rfl rfl (by decide +kernel) ⟨Nat.le_of_ble_eq_true rfl, Nat.le_of_ble_eq_true rfl⟩) hK hP hD hS hA [0, 1, 2, 3, 4, 5, 6, 7, 8, 9, 10, 11] [] [0, 1, 2, 3, 4, 5, 6, 7, 8, 9, 10, 11] rfl rfl rfl rfl (by decide) rfl rfl (ci := 4) rfl 0 rfl rfl hl.1 rfl (Nat.le_of_ble_eq_true rfl) dX4_test_3 ⟨Nat.zero_le _, Nat.zero_le _⟩ (fun H locs hP hD hS => ?_)
  refine lv_if_ne (tgt := 13) hx hb dX4_test_6 (by decide) (fun c_0 => ?_) (fun c_0 => ?_)
  · have d_0 := zb_ne c_0
    exact absurd hx0 (by rw [d_0]; decide)
  · have d_0 := zb_eq c_0
    refine lv_iconst (v := 1) hx hb dX4_test_9 (by decide) ?_
    refine lv_goto (tgt := 27) hx hb dX4_test_10 (by decide) ?_
    refine va_put (D := (dC, dI)) (ci := 4) (v := .int 1) (ty := .int) (C := RX4) (T := TX4) (N := 17) hx hb hts hin_4 tyX4 tyX4_ok nmX4 hown hK hP hD hS 0 rfl rfl 0 (by decide) hf_45 (fun _ h9 => h9) rfl (by decide +kernel) rfl rfl (Nat.le_of_ble_eq_true rfl) dX4_test_27 (fun H locs hP hD hS => ?_)
    have hP : va_P (dC, dI) vwCl (wMo b cI cZ cD 1 mh (nI N) ki pl tu le ch ca (nI M) wa la si (nI mb) bo (nI ma) al) H := hP
    have hD : va_D A (wMo b cI cZ cD 1 mh (nI N) ki pl tu le ch ca (nI M) wa la si (nI mb) bo (nI ma) al) := hD
    refine lv_aload_n hx hb dX4_test_30 rfl (lv_at hl 0 rfl) ?_
    refine va_get (D := (dC, dI)) (ci := 4) (v := .int 1) (C := RX4) (T := TX4) (N := 17) hx hb hts hin_4 hown hK hP 0 rfl rfl 0 (by decide) hf_45 (fun _ h9 => h9) rfl dX4_test_31 ?_
    refine lv_if_le (tgt := 39) hx hb dX4_test_34 (by decide) (fun c => absurd c (by decide)) (fun _ => ?_)
    refine lv_iconst (v := 0) hx hb dX4_test_37 (by decide) ?_
    exact W.iret (v := 0) hx hb hr (zq_qi rfl hP hK hD hS) hS.2.2 dX4_test_38

set_option maxHeartbeats 4000000 in
set_option maxRecDepth 100000 in
theorem c_X4_test_off (l : Launch) (dC : Nat → ClassId) (dI : Nat → Nat → Nat) (b : Nat → Nat) (cI cZ cD : ClassId) (mt mh : Int32) (ki pl tu le : Nat → Int32) (ch ca : Nat → UInt64) (N M mb ma : Nat) (wa la si bo al : Nat → Int32) (hN : N ≤ 40) (hM : M ≤ 30) (hmb : mb ≤ 30) (hma : ma ≤ 60) (j : Nat) (hj : j < N) (hpl : ¬ pl j = 0) (sz : Nat) : zq_Mi l yX4_test wsX4_test ({ frames := 2, cells := 0, slots := 0, locals := 43 } : Room) (dC, dI) (zq_T cI cZ cD) [.ref (b 0), .int (nI j)] (wMo b cI cZ cD mt mh (nI N) ki pl tu le ch ca (nI M) wa la si (nI mb) bo (nI ma) al) 0 (wMo b cI cZ cD 2 mh (nI N) ki pl tu le ch ca (nI M) wa la si (nI mb) bo (nI ma) al) sz := by
  refine Met.ofW (cc := cX4_test) (maxL := 3) (ret := (some .int)) (by decide) rfl ?_
  intro p e s m args below meth c s₁ B hml hv
  obtain ⟨rfl, hsz, hP, hK, hD0⟩ := hv
  have hx := B.exec
  have hb := B.bytes
  have hr := B.returns
  have hts := atoms_spec (ws := wsX4_test) B.pre
  have hown : s.vm.findClass RX4 = some m.cls := findClass_of_methodNamed B.named
  have hlocks := B.notSynchronized
  subst hsz
  have hD := hD0.self (sz := s.heap.size)
  generalize hAe : va_A (wMo b cI cZ cD mt mh (nI N) ki pl tu le ch ca (nI M) wa la si (nI mb) bo (nI ma) al) s.heap.size = A at hD ⊢
  have hA : ∀ q : Nat, s.heap.size ≤ q → A q := fun q h => by rw [← hAe]; exact Or.inr h
  have hS : va_S A s.heap s.heap [] := va_S.rf
  have hP : va_P (dC, dI) vwCl (wMo b cI cZ cD mt mh (nI N) ki pl tu le ch ca (nI M) wa la si (nI mb) bo (nI ma) al) s.heap := hP
  have hl := lv_entry ([.ref (b 0), .int (nI j)]) (n := 3) (Nat.le_of_ble_eq_true rfl)
  rw [lg_entry_eq]
  generalize (lg_sl ([.ref (b 0), .int (nI j)]) ++ List.replicate (3 - (lg_sl ([.ref (b 0), .int (nI j)])).length) Slot.unset).toArray = ls at hl ⊢
  have hl : lv_has ls 3 [(0, .ref (b 0)), (1, .int (nI j))] := hl
  have hf_13 := hts (.fieldLink RX4 13 "LampRoomModel" "place" "[I") (by decide +kernel)
  have hin_4 : ∀ w ∈ wsX40, w ∈ wsX4_test := by decide +kernel
  have hf_45 := hts (.fieldLink RX4 45 "LampRoomModel" "thrown" "I") (by decide +kernel)
  refine lv_aload_n hx hb dX4_test_0 rfl (lv_at hl 0 rfl) ?_
  refine lv_aload_n hx hb dX4_test_1 rfl (lv_at hl 0 rfl) ?_
  refine lv_iload_n hx hb dX4_test_2 rfl (lv_at hl 1 rfl) ?_
  refine zq_cVi (As := [.int (nI j)]) (rest := [.ref (b 0)]) (wc := (wMo b cI cZ cD mt mh (nI N) ki pl tu le ch ca (nI M) wa la si (nI mb) bo (nI ma) al)) (w1 := (wMo b cI cZ cD mt mh (nI N) ki pl tu le ch ca (nI M) wa la si (nI mb) bo (nI ma) al)) (wr := ([] : va_W)) (ws' := (wMo b cI cZ cD mt mh (nI N) ki pl tu le ch ca (nI M) wa la si (nI mb) bo (nI ma) al)) ⟨hx, hb, hml, hown, hts⟩ (c_X4_isLamp l dC dI b cI cZ cD mt mh ki pl tu le ch ca N M mb ma wa la si bo al (by omega) (by omega) (by omega) (by omega) (nI j) s.heap.size) (cwV 1 hts gX4_test_X4_isLamp rfl rfl rfl (by decide +kernel) ⟨Nat.le_of_ble_eq_true rfl, Nat.le_of_ble_eq_true rfl⟩) hK hP hD hS hA [0, 1, 2, 3, 4, 5, 6, 7, 8, 9, 10, 11] [] [0, 1, 2, 3, 4, 5, 6, 7, 8, 9, 10, 11] rfl rfl rfl rfl (by decide) rfl rfl (ci := 4) rfl 0 rfl rfl hl.1 rfl (Nat.le_of_ble_eq_true rfl) dX4_test_3 ⟨Nat.zero_le _, Nat.zero_le _⟩ (fun H locs hP hD hS => ?_)
  refine lv_if_ne (tgt := 13) hx hb dX4_test_6 (by decide) (fun c_0 => ?_) (fun c_0 => ?_)
  · have d_0 := zb_ne c_0
    refine lv_aload_n hx hb dX4_test_13 rfl (lv_at hl 0 rfl) ?_
    refine va_get (D := (dC, dI)) (ci := 4) (v := .ref (b 2)) (C := RX4) (T := TX4) (N := 17) hx hb hts hin_4 hown hK hP 0 rfl rfl 4 (by decide) hf_13 (fun _ h9 => h9) rfl dX4_test_14 ?_
    refine lv_iload_n hx hb dX4_test_17 rfl (lv_at hl 1 rfl) ?_
    refine zq_iald hx hb hK hP 2 0 rfl rfl (j := j) (by omega) (by decide) dX4_test_18 ?_
    refine lv_if_ne (tgt := 26) hx hb dX4_test_19 (by decide) (fun c_1 => ?_) (fun c_1 => ?_)
    · refine lv_iconst (v := 2) hx hb dX4_test_26 (by decide) ?_
      refine va_put (D := (dC, dI)) (ci := 4) (v := .int 2) (ty := .int) (C := RX4) (T := TX4) (N := 17) hx hb hts hin_4 tyX4 tyX4_ok nmX4 hown hK hP hD hS 0 rfl rfl 0 (by decide) hf_45 (fun _ h9 => h9) rfl (by decide +kernel) rfl rfl (Nat.le_of_ble_eq_true rfl) dX4_test_27 (fun H locs hP hD hS => ?_)
      have hP : va_P (dC, dI) vwCl (wMo b cI cZ cD 2 mh (nI N) ki pl tu le ch ca (nI M) wa la si (nI mb) bo (nI ma) al) H := hP
      have hD : va_D A (wMo b cI cZ cD 2 mh (nI N) ki pl tu le ch ca (nI M) wa la si (nI mb) bo (nI ma) al) := hD
      refine lv_aload_n hx hb dX4_test_30 rfl (lv_at hl 0 rfl) ?_
      refine va_get (D := (dC, dI)) (ci := 4) (v := .int 2) (C := RX4) (T := TX4) (N := 17) hx hb hts hin_4 hown hK hP 0 rfl rfl 0 (by decide) hf_45 (fun _ h9 => h9) rfl dX4_test_31 ?_
      refine lv_if_le (tgt := 39) hx hb dX4_test_34 (by decide) (fun c => absurd c (by decide)) (fun _ => ?_)
      refine lv_iconst (v := 0) hx hb dX4_test_37 (by decide) ?_
      exact W.iret (v := 0) hx hb hr (zq_qi rfl hP hK hD hS) hS.2.2 dX4_test_38
    · exact absurd c_1 hpl
  · have d_0 := zb_eq c_0
    exact absurd (in_b_ok hj (by omega)) (by rw [d_0]; decide)

set_option maxHeartbeats 4000000 in
set_option maxRecDepth 100000 in
theorem c_X4_test_ok (l : Launch) (dC : Nat → ClassId) (dI : Nat → Nat → Nat) (b : Nat → Nat) (cI cZ cD : ClassId) (mt mh : Int32) (ki pl tu le : Nat → Int32) (ch ca : Nat → UInt64) (N M mb ma : Nat) (wa la si bo al : Nat → Int32) (hN : N ≤ 40) (hM : M ≤ 30) (hmb : mb ≤ 30) (hma : ma ≤ 60) (j : Nat) (hj : j < N) (hpl : pl j = 0) (sz : Nat) : zq_Mi l yX4_test wsX4_test ({ frames := 2, cells := 0, slots := 0, locals := 43 } : Room) (dC, dI) (zq_T cI cZ cD) [.ref (b 0), .int (nI j)] (wMo b cI cZ cD mt mh (nI N) ki pl tu le ch ca (nI M) wa la si (nI mb) bo (nI ma) al) (la_fault le ki ca j) (wMo b cI cZ cD 0 mh (nI N) ki (upd pl j (if la_fault le ki ca j = 0 then 0 else 2)) tu le ch ca (nI M) wa la si (nI mb) bo (nI ma) al) sz := by
  refine Met.ofW (cc := cX4_test) (maxL := 3) (ret := (some .int)) (by decide) rfl ?_
  intro p e s m args below meth c s₁ B hml hv
  obtain ⟨rfl, hsz, hP, hK, hD0⟩ := hv
  have hx := B.exec
  have hb := B.bytes
  have hr := B.returns
  have hts := atoms_spec (ws := wsX4_test) B.pre
  have hown : s.vm.findClass RX4 = some m.cls := findClass_of_methodNamed B.named
  have hlocks := B.notSynchronized
  subst hsz
  have hD := hD0.self (sz := s.heap.size)
  generalize hAe : va_A (wMo b cI cZ cD mt mh (nI N) ki pl tu le ch ca (nI M) wa la si (nI mb) bo (nI ma) al) s.heap.size = A at hD ⊢
  have hA : ∀ q : Nat, s.heap.size ≤ q → A q := fun q h => by rw [← hAe]; exact Or.inr h
  have hS : va_S A s.heap s.heap [] := va_S.rf
  have hP : va_P (dC, dI) vwCl (wMo b cI cZ cD mt mh (nI N) ki pl tu le ch ca (nI M) wa la si (nI mb) bo (nI ma) al) s.heap := hP
  have hl := lv_entry ([.ref (b 0), .int (nI j)]) (n := 3) (Nat.le_of_ble_eq_true rfl)
  rw [lg_entry_eq]
  generalize (lg_sl ([.ref (b 0), .int (nI j)]) ++ List.replicate (3 - (lg_sl ([.ref (b 0), .int (nI j)])).length) Slot.unset).toArray = ls at hl ⊢
  have hl : lv_has ls 3 [(0, .ref (b 0)), (1, .int (nI j))] := hl
  have hf_13 := hts (.fieldLink RX4 13 "LampRoomModel" "place" "[I") (by decide +kernel)
  have hin_4 : ∀ w ∈ wsX40, w ∈ wsX4_test := by decide +kernel
  have hf_45 := hts (.fieldLink RX4 45 "LampRoomModel" "thrown" "I") (by decide +kernel)
  have hf_19 := hts (.fieldLink RX4 19 "LampRoomModel" "leaks" "[Z") (by decide +kernel)
  refine lv_aload_n hx hb dX4_test_0 rfl (lv_at hl 0 rfl) ?_
  refine lv_aload_n hx hb dX4_test_1 rfl (lv_at hl 0 rfl) ?_
  refine lv_iload_n hx hb dX4_test_2 rfl (lv_at hl 1 rfl) ?_
  refine zq_cVi (As := [.int (nI j)]) (rest := [.ref (b 0)]) (wc := (wMo b cI cZ cD mt mh (nI N) ki pl tu le ch ca (nI M) wa la si (nI mb) bo (nI ma) al)) (w1 := (wMo b cI cZ cD mt mh (nI N) ki pl tu le ch ca (nI M) wa la si (nI mb) bo (nI ma) al)) (wr := ([] : va_W)) (ws' := (wMo b cI cZ cD mt mh (nI N) ki pl tu le ch ca (nI M) wa la si (nI mb) bo (nI ma) al)) ⟨hx, hb, hml, hown, hts⟩ (c_X4_isLamp l dC dI b cI cZ cD mt mh ki pl tu le ch ca N M mb ma wa la si bo al (by omega) (by omega) (by omega) (by omega) (nI j) s.heap.size) (cwV 1 hts gX4_test_X4_isLamp rfl rfl rfl (by decide +kernel) ⟨Nat.le_of_ble_eq_true rfl, Nat.le_of_ble_eq_true rfl⟩) hK hP hD hS hA [0, 1, 2, 3, 4, 5, 6, 7, 8, 9, 10, 11] [] [0, 1, 2, 3, 4, 5, 6, 7, 8, 9, 10, 11] rfl rfl rfl rfl (by decide) rfl rfl (ci := 4) rfl 0 rfl rfl hl.1 rfl (Nat.le_of_ble_eq_true rfl) dX4_test_3 ⟨Nat.zero_le _, Nat.zero_le _⟩ (fun H locs hP hD hS => ?_)
  refine lv_if_ne (tgt := 13) hx hb dX4_test_6 (by decide) (fun c_0 => ?_) (fun c_0 => ?_)
  · have d_0 := zb_ne c_0
    refine lv_aload_n hx hb dX4_test_13 rfl (lv_at hl 0 rfl) ?_
    refine va_get (D := (dC, dI)) (ci := 4) (v := .ref (b 2)) (C := RX4) (T := TX4) (N := 17) hx hb hts hin_4 hown hK hP 0 rfl rfl 4 (by decide) hf_13 (fun _ h9 => h9) rfl dX4_test_14 ?_
    refine lv_iload_n hx hb dX4_test_17 rfl (lv_at hl 1 rfl) ?_
    refine zq_iald hx hb hK hP 2 0 rfl rfl (j := j) (by omega) (by decide) dX4_test_18 ?_
    refine lv_if_ne (tgt := 26) hx hb dX4_test_19 (by decide) (fun c_1 => ?_) (fun c_1 => ?_)
    · exact absurd hpl c_1
    · refine lv_iconst (v := 0) hx hb dX4_test_22 (by decide) ?_
      refine lv_goto (tgt := 27) hx hb dX4_test_23 (by decide) ?_
      refine va_put (D := (dC, dI)) (ci := 4) (v := .int 0) (ty := .int) (C := RX4) (T := TX4) (N := 17) hx hb hts hin_4 tyX4 tyX4_ok nmX4 hown hK hP hD hS 0 rfl rfl 0 (by decide) hf_45 (fun _ h9 => h9) rfl (by decide +kernel) rfl rfl (Nat.le_of_ble_eq_true rfl) dX4_test_27 (fun H locs hP hD hS => ?_)
      have hP : va_P (dC, dI) vwCl (wMo b cI cZ cD 0 mh (nI N) ki pl tu le ch ca (nI M) wa la si (nI mb) bo (nI ma) al) H := hP
      have hD : va_D A (wMo b cI cZ cD 0 mh (nI N) ki pl tu le ch ca (nI M) wa la si (nI mb) bo (nI ma) al) := hD
      refine lv_aload_n hx hb dX4_test_30 rfl (lv_at hl 0 rfl) ?_
      refine va_get (D := (dC, dI)) (ci := 4) (v := .int 0) (C := RX4) (T := TX4) (N := 17) hx hb hts hin_4 hown hK hP 0 rfl rfl 0 (by decide) hf_45 (fun _ h9 => h9) rfl dX4_test_31 ?_
      refine lv_if_le (tgt := 39) hx hb dX4_test_34 (by decide) (fun _ => ?_) (fun c => absurd c (by decide))
      refine lv_aload_n hx hb dX4_test_39 rfl (lv_at hl 0 rfl) ?_
      refine va_get (D := (dC, dI)) (ci := 4) (v := .ref (b 4)) (C := RX4) (T := TX4) (N := 17) hx hb hts hin_4 hown hK hP 0 rfl rfl 6 (by decide) hf_19 (fun _ h9 => h9) rfl dX4_test_40 ?_
      refine lv_iload_n hx hb dX4_test_43 rfl (lv_at hl 1 rfl) ?_
      refine zq_zald hx hb hK hP 4 1 rfl rfl (j := j) (by omega) (by decide) dX4_test_44 ?_
      refine lv_if_eq (tgt := 52) hx hb dX4_test_45 (by decide) (fun c_2 => ?_) (fun c_2 => ?_)
      · refine lv_aload_n hx hb dX4_test_52 rfl (lv_at hl 0 rfl) ?_
        refine lv_iload_n hx hb dX4_test_53 rfl (lv_at hl 1 rfl) ?_
        refine zq_cVi (As := [.int (nI j)]) (rest := []) (wc := (wMo b cI cZ cD 0 mh (nI N) ki pl tu le ch ca (nI M) wa la si (nI mb) bo (nI ma) al)) (w1 := (wMo b cI cZ cD 0 mh (nI N) ki pl tu le ch ca (nI M) wa la si (nI mb) bo (nI ma) al)) (wr := ([] : va_W)) (ws' := (wMo b cI cZ cD 0 mh (nI N) ki pl tu le ch ca (nI M) wa la si (nI mb) bo (nI ma) al)) ⟨hx, hb, hml, hown, hts⟩ (c_X4_isWeak l dC dI b cI cZ cD 0 mh ki pl tu le ch ca N M mb ma wa la si bo al (by omega) (by omega) (by omega) (by omega) j (by omega) H.size) (cwV 1 hts gX4_test_X4_isWeak rfl rfl rfl (by decide +kernel) ⟨Nat.le_of_ble_eq_true rfl, Nat.le_of_ble_eq_true rfl⟩) hK hP hD hS hA [0, 1, 2, 3, 4, 5, 6, 7, 8, 9, 10, 11] [] [0, 1, 2, 3, 4, 5, 6, 7, 8, 9, 10, 11] rfl rfl rfl rfl (by decide) rfl rfl (ci := 4) rfl 0 rfl rfl hl.1 rfl (Nat.le_of_ble_eq_true rfl) dX4_test_54 ⟨Nat.zero_le _, Nat.zero_le _⟩ (fun H locs hP hD hS => ?_)
        refine lv_if_eq (tgt := 64) hx hb dX4_test_57 (by decide) (fun c_3 => ?_) (fun c_3 => ?_)
        · have d_3 := zb_eq c_3
          refine lv_iconst (v := 0) hx hb dX4_test_64 (by decide) ?_
          refine lv_istore_n (lv' := [(2, .int 0), (0, .ref (b 0)), (1, .int (nI j))]) hx hb dX4_test_65 rfl hl (by decide) rfl (fun ls hl => ?_)
          refine lv_aload_n hx hb dX4_test_66 rfl (lv_at hl 1 rfl) ?_
          refine va_get (D := (dC, dI)) (ci := 4) (v := .ref (b 2)) (C := RX4) (T := TX4) (N := 17) hx hb hts hin_4 hown hK hP 0 rfl rfl 4 (by decide) hf_13 (fun _ h9 => h9) rfl dX4_test_67 ?_
          refine lv_iload_n hx hb dX4_test_70 rfl (lv_at hl 2 rfl) ?_
          refine lv_iload_n hx hb dX4_test_71 rfl (lv_at hl 0 rfl) ?_
          refine lv_if_le (tgt := 79) hx hb dX4_test_72 (by decide) (fun _ => ?_) (fun c => absurd c (by decide))
          refine lv_iconst (v := 0) hx hb dX4_test_79 (by decide) ?_
          refine zq_iast hx hb hK hP hD hS 2 0 rfl rfl (j := j) (by omega) (by decide) (wMo b cI cZ cD 0 mh (nI N) ki (upd pl j 0) tu le ch ca (nI M) wa la si (nI mb) bo (nI ma) al) rfl dX4_test_80 (fun H locs hP hD hS => ?_)
          refine lv_iload_n hx hb dX4_test_81 rfl (lv_at hl 0 rfl) ?_
          have e_4 : (upd pl j (if la_fault le ki ca j = 0 then 0 else 2)) = (upd pl j 0) := by first | with_reducible rfl | simp [la_fault, d_0, c_1, c_2, d_3]
          exact W.iret (v := 0) hx hb hr (zq_qi (by first | with_reducible rfl | simp [la_fault, d_0, c_1, c_2, d_3]) (by rw [e_4]; exact hP) hK (by rw [e_4]; exact hD) hS) hS.2.2 dX4_test_82
        · have d_3 := zb_ne c_3
          refine lv_iconst (v := 2) hx hb dX4_test_60 (by decide) ?_
          refine lv_goto (tgt := 65) hx hb dX4_test_61 (by decide) ?_
          refine lv_istore_n (lv' := [(2, .int 2), (0, .ref (b 0)), (1, .int (nI j))]) hx hb dX4_test_65 rfl hl (by decide) rfl (fun ls hl => ?_)
          refine lv_aload_n hx hb dX4_test_66 rfl (lv_at hl 1 rfl) ?_
          refine va_get (D := (dC, dI)) (ci := 4) (v := .ref (b 2)) (C := RX4) (T := TX4) (N := 17) hx hb hts hin_4 hown hK hP 0 rfl rfl 4 (by decide) hf_13 (fun _ h9 => h9) rfl dX4_test_67 ?_
          refine lv_iload_n hx hb dX4_test_70 rfl (lv_at hl 2 rfl) ?_
          refine lv_iload_n hx hb dX4_test_71 rfl (lv_at hl 0 rfl) ?_
          refine lv_if_le (tgt := 79) hx hb dX4_test_72 (by decide) (fun c => absurd c (by decide)) (fun _ => ?_)
          refine lv_iconst (v := 2) hx hb dX4_test_75 (by decide) ?_
          refine lv_goto (tgt := 80) hx hb dX4_test_76 (by decide) ?_
          refine zq_iast hx hb hK hP hD hS 2 0 rfl rfl (j := j) (by omega) (by decide) (wMo b cI cZ cD 0 mh (nI N) ki (upd pl j 2) tu le ch ca (nI M) wa la si (nI mb) bo (nI ma) al) rfl dX4_test_80 (fun H locs hP hD hS => ?_)
          refine lv_iload_n hx hb dX4_test_81 rfl (lv_at hl 0 rfl) ?_
          have e_5 : (upd pl j (if la_fault le ki ca j = 0 then 0 else 2)) = (upd pl j 2) := by first | with_reducible rfl | simp [la_fault, d_0, c_1, c_2, d_3]
          exact W.iret (v := 2) hx hb hr (zq_qi (by first | with_reducible rfl | simp [la_fault, d_0, c_1, c_2, d_3]) (by rw [e_5]; exact hP) hK (by rw [e_5]; exact hD) hS) hS.2.2 dX4_test_82
      · refine lv_iconst (v := 1) hx hb dX4_test_48 (by decide) ?_
        refine lv_goto (tgt := 65) hx hb dX4_test_49 (by decide) ?_
        refine lv_istore_n (lv' := [(2, .int 1), (0, .ref (b 0)), (1, .int (nI j))]) hx hb dX4_test_65 rfl hl (by decide) rfl (fun ls hl => ?_)
        refine lv_aload_n hx hb dX4_test_66 rfl (lv_at hl 1 rfl) ?_
        refine va_get (D := (dC, dI)) (ci := 4) (v := .ref (b 2)) (C := RX4) (T := TX4) (N := 17) hx hb hts hin_4 hown hK hP 0 rfl rfl 4 (by decide) hf_13 (fun _ h9 => h9) rfl dX4_test_67 ?_
        refine lv_iload_n hx hb dX4_test_70 rfl (lv_at hl 2 rfl) ?_
        refine lv_iload_n hx hb dX4_test_71 rfl (lv_at hl 0 rfl) ?_
        refine lv_if_le (tgt := 79) hx hb dX4_test_72 (by decide) (fun c => absurd c (by decide)) (fun _ => ?_)
        refine lv_iconst (v := 2) hx hb dX4_test_75 (by decide) ?_
        refine lv_goto (tgt := 80) hx hb dX4_test_76 (by decide) ?_
        refine zq_iast hx hb hK hP hD hS 2 0 rfl rfl (j := j) (by omega) (by decide) (wMo b cI cZ cD 0 mh (nI N) ki (upd pl j 2) tu le ch ca (nI M) wa la si (nI mb) bo (nI ma) al) rfl dX4_test_80 (fun H locs hP hD hS => ?_)
        refine lv_iload_n hx hb dX4_test_81 rfl (lv_at hl 0 rfl) ?_
        have e_6 : (upd pl j (if la_fault le ki ca j = 0 then 0 else 2)) = (upd pl j 2) := by first | with_reducible rfl | simp [la_fault, d_0, c_1, c_2]
        exact W.iret (v := 1) hx hb hr (zq_qi (by first | with_reducible rfl | simp [la_fault, d_0, c_1, c_2]) (by rw [e_6]; exact hP) hK (by rw [e_6]; exact hD) hS) hS.2.2 dX4_test_82
  · have d_0 := zb_eq c_0
    exact absurd (in_b_ok hj (by omega)) (by rw [d_0]; decide)

set_option maxHeartbeats 4000000 in
set_option maxRecDepth 100000 in
theorem c_X4_mend_bad (l : Launch) (dC : Nat → ClassId) (dI : Nat → Nat → Nat) (b : Nat → Nat) (cI cZ cD : ClassId) (mt mh : Int32) (ki pl tu le : Nat → Int32) (ch ca : Nat → UInt64) (N M mb ma : Nat) (wa la si bo al : Nat → Int32) (hN : N ≤ 40) (hM : M ≤ 30) (hmb : mb ≤ 30) (hma : ma ≤ 60) (x : Int32) (hx0 : in_b x 0 (nI N - 1) = false) (sz : Nat) : zq_Mi l yX4_mend wsX4_mend ({ frames := 2, cells := 0, slots := 0, locals := 43 } : Room) (dC, dI) (zq_T cI cZ cD) [.ref (b 0), .int x] (wMo b cI cZ cD mt mh (nI N) ki pl tu le ch ca (nI M) wa la si (nI mb) bo (nI ma) al) (zb false) (wMo b cI cZ cD 1 mh (nI N) ki pl tu le ch ca (nI M) wa la si (nI mb) bo (nI ma) al) sz := by
  refine Met.ofW (cc := cX4_mend) (maxL := 2) (ret := (some .boolean)) (by decide) rfl ?_
  intro p e s m args below meth c s₁ B hml hv
  obtain ⟨rfl, hsz, hP, hK, hD0⟩ := hv
  have hx := B.exec
  have hb := B.bytes
  have hr := B.returns
  have hts := atoms_spec (ws := wsX4_mend) B.pre
  have hown : s.vm.findClass RX4 = some m.cls := findClass_of_methodNamed B.named
  have hlocks := B.notSynchronized
  subst hsz
  have hD := hD0.self (sz := s.heap.size)
  generalize hAe : va_A (wMo b cI cZ cD mt mh (nI N) ki pl tu le ch ca (nI M) wa la si (nI mb) bo (nI ma) al) s.heap.size = A at hD ⊢
  have hA : ∀ q : Nat, s.heap.size ≤ q → A q := fun q h => by rw [← hAe]; exact Or.inr h
  have hS : va_S A s.heap s.heap [] := va_S.rf
  have hP : va_P (dC, dI) vwCl (wMo b cI cZ cD mt mh (nI N) ki pl tu le ch ca (nI M) wa la si (nI mb) bo (nI ma) al) s.heap := hP
  have hl := lv_entry ([.ref (b 0), .int x]) (n := 2) (Nat.le_of_ble_eq_true rfl)
  rw [lg_entry_eq]
  generalize (lg_sl ([.ref (b 0), .int x]) ++ List.replicate (2 - (lg_sl ([.ref (b 0), .int x])).length) Slot.unset).toArray = ls at hl ⊢
  have hl : lv_has ls 2 [(0, .ref (b 0)), (1, .int x)] := hl
  have hf_45 := hts (.fieldLink RX4 45 "LampRoomModel" "thrown" "I") (by decide +kernel)
  have hin_4 : ∀ w ∈ wsX40, w ∈ wsX4_mend := by decide +kernel
  refine lv_aload_n hx hb dX4_mend_0 rfl (lv_at hl 0 rfl) ?_
  refine lv_aload_n hx hb dX4_mend_1 rfl (lv_at hl 0 rfl) ?_
  refine lv_iload_n hx hb dX4_mend_2 rfl (lv_at hl 1 rfl) ?_
  refine zq_cVi (As := [.int x]) (rest := [.ref (b 0)]) (wc := (wMo b cI cZ cD mt mh (nI N) ki pl tu le ch ca (nI M) wa la si (nI mb) bo (nI ma) al)) (w1 := (wMo b cI cZ cD mt mh (nI N) ki pl tu le ch ca (nI M) wa la si (nI mb) bo (nI ma) al)) (wr := ([] : va_W)) (ws' := (wMo b cI cZ cD mt mh (nI N) ki pl tu le ch ca (nI M) wa la si (nI mb) bo (nI ma) al)) ⟨hx, hb, hml, hown, hts⟩ (c_X4_isLamp l dC dI b cI cZ cD mt mh ki pl tu le ch ca N M mb ma wa la si bo al (by omega) (by omega) (by omega) (by omega) x s.heap.size) (cwV 1 hts gX4_mend_X4_isLamp rfl rfl rfl (by decide +kernel) ⟨Nat.le_of_ble_eq_true rfl, Nat.le_of_ble_eq_true rfl⟩) hK hP hD hS hA [0, 1, 2, 3, 4, 5, 6, 7, 8, 9, 10, 11] [] [0, 1, 2, 3, 4, 5, 6, 7, 8, 9, 10, 11] rfl rfl rfl rfl (by decide) rfl rfl (ci := 4) rfl 0 rfl rfl hl.1 rfl (Nat.le_of_ble_eq_true rfl) dX4_mend_3 ⟨Nat.zero_le _, Nat.zero_le _⟩ (fun H locs hP hD hS => ?_)
  refine lv_if_ne (tgt := 13) hx hb dX4_mend_6 (by decide) (fun c_0 => ?_) (fun c_0 => ?_)
  · have d_0 := zb_ne c_0
    exact absurd hx0 (by rw [d_0]; decide)
  · have d_0 := zb_eq c_0
    refine lv_iconst (v := 1) hx hb dX4_mend_9 (by decide) ?_
    refine lv_goto (tgt := 28) hx hb dX4_mend_10 (by decide) ?_
    refine va_put (D := (dC, dI)) (ci := 4) (v := .int 1) (ty := .int) (C := RX4) (T := TX4) (N := 17) hx hb hts hin_4 tyX4 tyX4_ok nmX4 hown hK hP hD hS 0 rfl rfl 0 (by decide) hf_45 (fun _ h9 => h9) rfl (by decide +kernel) rfl rfl (Nat.le_of_ble_eq_true rfl) dX4_mend_28 (fun H locs hP hD hS => ?_)
    have hP : va_P (dC, dI) vwCl (wMo b cI cZ cD 1 mh (nI N) ki pl tu le ch ca (nI M) wa la si (nI mb) bo (nI ma) al) H := hP
    have hD : va_D A (wMo b cI cZ cD 1 mh (nI N) ki pl tu le ch ca (nI M) wa la si (nI mb) bo (nI ma) al) := hD
    refine lv_aload_n hx hb dX4_mend_31 rfl (lv_at hl 0 rfl) ?_
    refine va_get (D := (dC, dI)) (ci := 4) (v := .int 1) (C := RX4) (T := TX4) (N := 17) hx hb hts hin_4 hown hK hP 0 rfl rfl 0 (by decide) hf_45 (fun _ h9 => h9) rfl dX4_mend_32 ?_
    refine lv_if_le (tgt := 40) hx hb dX4_mend_35 (by decide) (fun c => absurd c (by decide)) (fun _ => ?_)
    refine lv_iconst (v := 0) hx hb dX4_mend_38 (by decide) ?_
    exact W.zret (v := 0) hx hb hr (by rfl) (zq_qi (by first | with_reducible rfl | simp [zb, d_0]) hP hK hD hS) hS.2.2 dX4_mend_39

set_option maxHeartbeats 4000000 in
set_option maxRecDepth 100000 in
theorem c_X4_mend_off (l : Launch) (dC : Nat → ClassId) (dI : Nat → Nat → Nat) (b : Nat → Nat) (cI cZ cD : ClassId) (mt mh : Int32) (ki pl tu le : Nat → Int32) (ch ca : Nat → UInt64) (N M mb ma : Nat) (wa la si bo al : Nat → Int32) (hN : N ≤ 40) (hM : M ≤ 30) (hmb : mb ≤ 30) (hma : ma ≤ 60) (j : Nat) (hj : j < N) (hpl : ¬ pl j = 2) (sz : Nat) : zq_Mi l yX4_mend wsX4_mend ({ frames := 2, cells := 0, slots := 0, locals := 43 } : Room) (dC, dI) (zq_T cI cZ cD) [.ref (b 0), .int (nI j)] (wMo b cI cZ cD mt mh (nI N) ki pl tu le ch ca (nI M) wa la si (nI mb) bo (nI ma) al) (zb false) (wMo b cI cZ cD 2 mh (nI N) ki pl tu le ch ca (nI M) wa la si (nI mb) bo (nI ma) al) sz := by
  refine Met.ofW (cc := cX4_mend) (maxL := 2) (ret := (some .boolean)) (by decide) rfl ?_
  intro p e s m args below meth c s₁ B hml hv
  obtain ⟨rfl, hsz, hP, hK, hD0⟩ := hv
  have hx := B.exec
  have hb := B.bytes
  have hr := B.returns
  have hts := atoms_spec (ws := wsX4_mend) B.pre
  have hown : s.vm.findClass RX4 = some m.cls := findClass_of_methodNamed B.named
  have hlocks := B.notSynchronized
  subst hsz
  have hD := hD0.self (sz := s.heap.size)
  generalize hAe : va_A (wMo b cI cZ cD mt mh (nI N) ki pl tu le ch ca (nI M) wa la si (nI mb) bo (nI ma) al) s.heap.size = A at hD ⊢
  have hA : ∀ q : Nat, s.heap.size ≤ q → A q := fun q h => by rw [← hAe]; exact Or.inr h
  have hS : va_S A s.heap s.heap [] := va_S.rf
  have hP : va_P (dC, dI) vwCl (wMo b cI cZ cD mt mh (nI N) ki pl tu le ch ca (nI M) wa la si (nI mb) bo (nI ma) al) s.heap := hP
  have hl := lv_entry ([.ref (b 0), .int (nI j)]) (n := 2) (Nat.le_of_ble_eq_true rfl)
  rw [lg_entry_eq]
  generalize (lg_sl ([.ref (b 0), .int (nI j)]) ++ List.replicate (2 - (lg_sl ([.ref (b 0), .int (nI j)])).length) Slot.unset).toArray = ls at hl ⊢
  have hl : lv_has ls 2 [(0, .ref (b 0)), (1, .int (nI j))] := hl
  have hf_13 := hts (.fieldLink RX4 13 "LampRoomModel" "place" "[I") (by decide +kernel)
  have hin_4 : ∀ w ∈ wsX40, w ∈ wsX4_mend := by decide +kernel
  have hf_45 := hts (.fieldLink RX4 45 "LampRoomModel" "thrown" "I") (by decide +kernel)
  refine lv_aload_n hx hb dX4_mend_0 rfl (lv_at hl 0 rfl) ?_
  refine lv_aload_n hx hb dX4_mend_1 rfl (lv_at hl 0 rfl) ?_
  refine lv_iload_n hx hb dX4_mend_2 rfl (lv_at hl 1 rfl) ?_
  refine zq_cVi (As := [.int (nI j)]) (rest := [.ref (b 0)]) (wc := (wMo b cI cZ cD mt mh (nI N) ki pl tu le ch ca (nI M) wa la si (nI mb) bo (nI ma) al)) (w1 := (wMo b cI cZ cD mt mh (nI N) ki pl tu le ch ca (nI M) wa la si (nI mb) bo (nI ma) al)) (wr := ([] : va_W)) (ws' := (wMo b cI cZ cD mt mh (nI N) ki pl tu le ch ca (nI M) wa la si (nI mb) bo (nI ma) al)) ⟨hx, hb, hml, hown, hts⟩ (c_X4_isLamp l dC dI b cI cZ cD mt mh ki pl tu le ch ca N M mb ma wa la si bo al (by omega) (by omega) (by omega) (by omega) (nI j) s.heap.size) (cwV 1 hts gX4_mend_X4_isLamp rfl rfl rfl (by decide +kernel) ⟨Nat.le_of_ble_eq_true rfl, Nat.le_of_ble_eq_true rfl⟩) hK hP hD hS hA [0, 1, 2, 3, 4, 5, 6, 7, 8, 9, 10, 11] [] [0, 1, 2, 3, 4, 5, 6, 7, 8, 9, 10, 11] rfl rfl rfl rfl (by decide) rfl rfl (ci := 4) rfl 0 rfl rfl hl.1 rfl (Nat.le_of_ble_eq_true rfl) dX4_mend_3 ⟨Nat.zero_le _, Nat.zero_le _⟩ (fun H locs hP hD hS => ?_)
  refine lv_if_ne (tgt := 13) hx hb dX4_mend_6 (by decide) (fun c_0 => ?_) (fun c_0 => ?_)
  · have d_0 := zb_ne c_0
    refine lv_aload_n hx hb dX4_mend_13 rfl (lv_at hl 0 rfl) ?_
    refine va_get (D := (dC, dI)) (ci := 4) (v := .ref (b 2)) (C := RX4) (T := TX4) (N := 17) hx hb hts hin_4 hown hK hP 0 rfl rfl 4 (by decide) hf_13 (fun _ h9 => h9) rfl dX4_mend_14 ?_
    refine lv_iload_n hx hb dX4_mend_17 rfl (lv_at hl 1 rfl) ?_
    refine zq_iald hx hb hK hP 2 0 rfl rfl (j := j) (by omega) (by decide) dX4_mend_18 ?_
    refine lv_iconst (v := 2) hx hb dX4_mend_19 (by decide) ?_
    refine lv_icmp_ne (tgt := 27) hx hb dX4_mend_20 (by decide) (fun c_1 => ?_) (fun c_1 => ?_)
    · refine lv_iconst (v := 2) hx hb dX4_mend_27 (by decide) ?_
      refine va_put (D := (dC, dI)) (ci := 4) (v := .int 2) (ty := .int) (C := RX4) (T := TX4) (N := 17) hx hb hts hin_4 tyX4 tyX4_ok nmX4 hown hK hP hD hS 0 rfl rfl 0 (by decide) hf_45 (fun _ h9 => h9) rfl (by decide +kernel) rfl rfl (Nat.le_of_ble_eq_true rfl) dX4_mend_28 (fun H locs hP hD hS => ?_)
      have hP : va_P (dC, dI) vwCl (wMo b cI cZ cD 2 mh (nI N) ki pl tu le ch ca (nI M) wa la si (nI mb) bo (nI ma) al) H := hP
      have hD : va_D A (wMo b cI cZ cD 2 mh (nI N) ki pl tu le ch ca (nI M) wa la si (nI mb) bo (nI ma) al) := hD
      refine lv_aload_n hx hb dX4_mend_31 rfl (lv_at hl 0 rfl) ?_
      refine va_get (D := (dC, dI)) (ci := 4) (v := .int 2) (C := RX4) (T := TX4) (N := 17) hx hb hts hin_4 hown hK hP 0 rfl rfl 0 (by decide) hf_45 (fun _ h9 => h9) rfl dX4_mend_32 ?_
      refine lv_if_le (tgt := 40) hx hb dX4_mend_35 (by decide) (fun c => absurd c (by decide)) (fun _ => ?_)
      refine lv_iconst (v := 0) hx hb dX4_mend_38 (by decide) ?_
      exact W.zret (v := 0) hx hb hr (by rfl) (zq_qi (by first | with_reducible rfl | simp [zb, d_0, c_1]) hP hK hD hS) hS.2.2 dX4_mend_39
    · exact absurd c_1 hpl
  · have d_0 := zb_eq c_0
    exact absurd (in_b_ok hj (by omega)) (by rw [d_0]; decide)

set_option maxHeartbeats 4000000 in
set_option maxRecDepth 100000 in
theorem c_X4_mend_ok (l : Launch) (dC : Nat → ClassId) (dI : Nat → Nat → Nat) (b : Nat → Nat) (cI cZ cD : ClassId) (mt mh : Int32) (ki pl tu le : Nat → Int32) (ch ca : Nat → UInt64) (N M mb ma : Nat) (wa la si bo al : Nat → Int32) (hN : N ≤ 40) (hM : M ≤ 30) (hmb : mb ≤ 30) (hma : ma ≤ 60) (j : Nat) (hj : j < N) (hpl : pl j = 2) (sz : Nat) : zq_Mi l yX4_mend wsX4_mend ({ frames := 2, cells := 0, slots := 0, locals := 43 } : Room) (dC, dI) (zq_T cI cZ cD) [.ref (b 0), .int (nI j)] (wMo b cI cZ cD mt mh (nI N) ki pl tu le ch ca (nI M) wa la si (nI mb) bo (nI ma) al) (zb (!la_weak ki ca j)) (wMo b cI cZ cD 0 mh (nI N) ki (upd pl j (if la_weak ki ca j = true then 3 else 0)) tu (upd le j 0) ch ca (nI M) wa la si (nI mb) bo (nI ma) al) sz := by
  refine Met.ofW (cc := cX4_mend) (maxL := 2) (ret := (some .boolean)) (by decide) rfl ?_
  intro p e s m args below meth c s₁ B hml hv
  obtain ⟨rfl, hsz, hP, hK, hD0⟩ := hv
  have hx := B.exec
  have hb := B.bytes
  have hr := B.returns
  have hts := atoms_spec (ws := wsX4_mend) B.pre
  have hown : s.vm.findClass RX4 = some m.cls := findClass_of_methodNamed B.named
  have hlocks := B.notSynchronized
  subst hsz
  have hD := hD0.self (sz := s.heap.size)
  generalize hAe : va_A (wMo b cI cZ cD mt mh (nI N) ki pl tu le ch ca (nI M) wa la si (nI mb) bo (nI ma) al) s.heap.size = A at hD ⊢
  have hA : ∀ q : Nat, s.heap.size ≤ q → A q := fun q h => by rw [← hAe]; exact Or.inr h
  have hS : va_S A s.heap s.heap [] := va_S.rf
  have hP : va_P (dC, dI) vwCl (wMo b cI cZ cD mt mh (nI N) ki pl tu le ch ca (nI M) wa la si (nI mb) bo (nI ma) al) s.heap := hP
  have hl := lv_entry ([.ref (b 0), .int (nI j)]) (n := 2) (Nat.le_of_ble_eq_true rfl)
  rw [lg_entry_eq]
  generalize (lg_sl ([.ref (b 0), .int (nI j)]) ++ List.replicate (2 - (lg_sl ([.ref (b 0), .int (nI j)])).length) Slot.unset).toArray = ls at hl ⊢
  have hl : lv_has ls 2 [(0, .ref (b 0)), (1, .int (nI j))] := hl
  have hf_13 := hts (.fieldLink RX4 13 "LampRoomModel" "place" "[I") (by decide +kernel)
  have hin_4 : ∀ w ∈ wsX40, w ∈ wsX4_mend := by decide +kernel
  have hf_45 := hts (.fieldLink RX4 45 "LampRoomModel" "thrown" "I") (by decide +kernel)
  have hf_19 := hts (.fieldLink RX4 19 "LampRoomModel" "leaks" "[Z") (by decide +kernel)
  refine lv_aload_n hx hb dX4_mend_0 rfl (lv_at hl 0 rfl) ?_
  refine lv_aload_n hx hb dX4_mend_1 rfl (lv_at hl 0 rfl) ?_
  refine lv_iload_n hx hb dX4_mend_2 rfl (lv_at hl 1 rfl) ?_
  refine zq_cVi (As := [.int (nI j)]) (rest := [.ref (b 0)]) (wc := (wMo b cI cZ cD mt mh (nI N) ki pl tu le ch ca (nI M) wa la si (nI mb) bo (nI ma) al)) (w1 := (wMo b cI cZ cD mt mh (nI N) ki pl tu le ch ca (nI M) wa la si (nI mb) bo (nI ma) al)) (wr := ([] : va_W)) (ws' := (wMo b cI cZ cD mt mh (nI N) ki pl tu le ch ca (nI M) wa la si (nI mb) bo (nI ma) al)) ⟨hx, hb, hml, hown, hts⟩ (c_X4_isLamp l dC dI b cI cZ cD mt mh ki pl tu le ch ca N M mb ma wa la si bo al (by omega) (by omega) (by omega) (by omega) (nI j) s.heap.size) (cwV 1 hts gX4_mend_X4_isLamp rfl rfl rfl (by decide +kernel) ⟨Nat.le_of_ble_eq_true rfl, Nat.le_of_ble_eq_true rfl⟩) hK hP hD hS hA [0, 1, 2, 3, 4, 5, 6, 7, 8, 9, 10, 11] [] [0, 1, 2, 3, 4, 5, 6, 7, 8, 9, 10, 11] rfl rfl rfl rfl (by decide) rfl rfl (ci := 4) rfl 0 rfl rfl hl.1 rfl (Nat.le_of_ble_eq_true rfl) dX4_mend_3 ⟨Nat.zero_le _, Nat.zero_le _⟩ (fun H locs hP hD hS => ?_)
  refine lv_if_ne (tgt := 13) hx hb dX4_mend_6 (by decide) (fun c_0 => ?_) (fun c_0 => ?_)
  · have d_0 := zb_ne c_0
    refine lv_aload_n hx hb dX4_mend_13 rfl (lv_at hl 0 rfl) ?_
    refine va_get (D := (dC, dI)) (ci := 4) (v := .ref (b 2)) (C := RX4) (T := TX4) (N := 17) hx hb hts hin_4 hown hK hP 0 rfl rfl 4 (by decide) hf_13 (fun _ h9 => h9) rfl dX4_mend_14 ?_
    refine lv_iload_n hx hb dX4_mend_17 rfl (lv_at hl 1 rfl) ?_
    refine zq_iald hx hb hK hP 2 0 rfl rfl (j := j) (by omega) (by decide) dX4_mend_18 ?_
    refine lv_iconst (v := 2) hx hb dX4_mend_19 (by decide) ?_
    refine lv_icmp_ne (tgt := 27) hx hb dX4_mend_20 (by decide) (fun c_1 => ?_) (fun c_1 => ?_)
    · exact absurd hpl c_1
    · refine lv_iconst (v := 0) hx hb dX4_mend_23 (by decide) ?_
      refine lv_goto (tgt := 28) hx hb dX4_mend_24 (by decide) ?_
      refine va_put (D := (dC, dI)) (ci := 4) (v := .int 0) (ty := .int) (C := RX4) (T := TX4) (N := 17) hx hb hts hin_4 tyX4 tyX4_ok nmX4 hown hK hP hD hS 0 rfl rfl 0 (by decide) hf_45 (fun _ h9 => h9) rfl (by decide +kernel) rfl rfl (Nat.le_of_ble_eq_true rfl) dX4_mend_28 (fun H locs hP hD hS => ?_)
      have hP : va_P (dC, dI) vwCl (wMo b cI cZ cD 0 mh (nI N) ki pl tu le ch ca (nI M) wa la si (nI mb) bo (nI ma) al) H := hP
      have hD : va_D A (wMo b cI cZ cD 0 mh (nI N) ki pl tu le ch ca (nI M) wa la si (nI mb) bo (nI ma) al) := hD
      refine lv_aload_n hx hb dX4_mend_31 rfl (lv_at hl 0 rfl) ?_
      refine va_get (D := (dC, dI)) (ci := 4) (v := .int 0) (C := RX4) (T := TX4) (N := 17) hx hb hts hin_4 hown hK hP 0 rfl rfl 0 (by decide) hf_45 (fun _ h9 => h9) rfl dX4_mend_32 ?_
      refine lv_if_le (tgt := 40) hx hb dX4_mend_35 (by decide) (fun _ => ?_) (fun c => absurd c (by decide))
      refine lv_aload_n hx hb dX4_mend_40 rfl (lv_at hl 0 rfl) ?_
      refine va_get (D := (dC, dI)) (ci := 4) (v := .ref (b 4)) (C := RX4) (T := TX4) (N := 17) hx hb hts hin_4 hown hK hP 0 rfl rfl 6 (by decide) hf_19 (fun _ h9 => h9) rfl dX4_mend_41 ?_
      refine lv_iload_n hx hb dX4_mend_44 rfl (lv_at hl 1 rfl) ?_
      refine lv_iconst (v := 0) hx hb dX4_mend_45 (by decide) ?_
      refine zq_zast hx hb hK hP hD hS 4 1 rfl rfl (j := j) (by omega) (by decide) rfl (wMo b cI cZ cD 0 mh (nI N) ki pl tu (upd le j 0) ch ca (nI M) wa la si (nI mb) bo (nI ma) al) rfl dX4_mend_46 (fun H locs hP hD hS => ?_)
      refine lv_aload_n hx hb dX4_mend_47 rfl (lv_at hl 0 rfl) ?_
      refine va_get (D := (dC, dI)) (ci := 4) (v := .ref (b 2)) (C := RX4) (T := TX4) (N := 17) hx hb hts hin_4 hown hK hP 0 rfl rfl 4 (by decide) hf_13 (fun _ h9 => h9) rfl dX4_mend_48 ?_
      refine lv_iload_n hx hb dX4_mend_51 rfl (lv_at hl 1 rfl) ?_
      refine lv_aload_n hx hb dX4_mend_52 rfl (lv_at hl 0 rfl) ?_
      refine lv_iload_n hx hb dX4_mend_53 rfl (lv_at hl 1 rfl) ?_
      refine zq_cVi (As := [.int (nI j)]) (rest := [.int (nI j), .ref (b 2)]) (wc := (wMo b cI cZ cD 0 mh (nI N) ki pl tu (upd le j 0) ch ca (nI M) wa la si (nI mb) bo (nI ma) al)) (w1 := (wMo b cI cZ cD 0 mh (nI N) ki pl tu (upd le j 0) ch ca (nI M) wa la si (nI mb) bo (nI ma) al)) (wr := ([] : va_W)) (ws' := (wMo b cI cZ cD 0 mh (nI N) ki pl tu (upd le j 0) ch ca (nI M) wa la si (nI mb) bo (nI ma) al)) ⟨hx, hb, hml, hown, hts⟩ (c_X4_isWeak l dC dI b cI cZ cD 0 mh ki pl tu (upd le j 0) ch ca N M mb ma wa la si bo al (by omega) (by omega) (by omega) (by omega) j (by omega) H.size) (cwV 1 hts gX4_mend_X4_isWeak rfl rfl rfl (by decide +kernel) ⟨Nat.le_of_ble_eq_true rfl, Nat.le_of_ble_eq_true rfl⟩) hK hP hD hS hA [0, 1, 2, 3, 4, 5, 6, 7, 8, 9, 10, 11] [] [0, 1, 2, 3, 4, 5, 6, 7, 8, 9, 10, 11] rfl rfl rfl rfl (by decide) rfl rfl (ci := 4) rfl 0 rfl rfl hl.1 rfl (Nat.le_of_ble_eq_true rfl) dX4_mend_54 ⟨Nat.zero_le _, Nat.zero_le _⟩ (fun H locs hP hD hS => ?_)
      refine lv_if_eq (tgt := 64) hx hb dX4_mend_57 (by decide) (fun c_2 => ?_) (fun c_2 => ?_)
      · have d_2 := zb_eq c_2
        refine lv_iconst (v := 0) hx hb dX4_mend_64 (by decide) ?_
        refine zq_iast hx hb hK hP hD hS 2 0 rfl rfl (j := j) (by omega) (by decide) (wMo b cI cZ cD 0 mh (nI N) ki (upd pl j 0) tu (upd le j 0) ch ca (nI M) wa la si (nI mb) bo (nI ma) al) rfl dX4_mend_65 (fun H locs hP hD hS => ?_)
        refine lv_aload_n hx hb dX4_mend_66 rfl (lv_at hl 0 rfl) ?_
        refine va_get (D := (dC, dI)) (ci := 4) (v := .ref (b 2)) (C := RX4) (T := TX4) (N := 17) hx hb hts hin_4 hown hK hP 0 rfl rfl 4 (by decide) hf_13 (fun _ h9 => h9) rfl dX4_mend_67 ?_
        refine lv_iload_n hx hb dX4_mend_70 rfl (lv_at hl 1 rfl) ?_
        refine zq_iald hx hb hK hP 2 0 rfl rfl (j := j) (by omega) (by decide) dX4_mend_71 ?_
        rw [pk_us]
        refine lv_if_ne (tgt := 79) hx hb dX4_mend_72 (by decide) (fun c => absurd c (by decide)) (fun _ => ?_)
        refine lv_iconst (v := 1) hx hb dX4_mend_75 (by decide) ?_
        refine lv_goto (tgt := 80) hx hb dX4_mend_76 (by decide) ?_
        have e_3 : (upd pl j (if la_weak ki ca j = true then 3 else 0)) = (upd pl j 0) := by first | with_reducible rfl | simp [zb, d_0, c_1, d_2]
        exact W.zret (v := 1) hx hb hr (by rfl) (zq_qi (by first | with_reducible rfl | simp [zb, d_0, c_1, d_2]) (by rw [e_3]; exact hP) hK (by rw [e_3]; exact hD) hS) hS.2.2 dX4_mend_80
      · have d_2 := zb_ne c_2
        refine lv_iconst (v := 3) hx hb dX4_mend_60 (by decide) ?_
        refine lv_goto (tgt := 65) hx hb dX4_mend_61 (by decide) ?_
        refine zq_iast hx hb hK hP hD hS 2 0 rfl rfl (j := j) (by omega) (by decide) (wMo b cI cZ cD 0 mh (nI N) ki (upd pl j 3) tu (upd le j 0) ch ca (nI M) wa la si (nI mb) bo (nI ma) al) rfl dX4_mend_65 (fun H locs hP hD hS => ?_)
        refine lv_aload_n hx hb dX4_mend_66 rfl (lv_at hl 0 rfl) ?_
        refine va_get (D := (dC, dI)) (ci := 4) (v := .ref (b 2)) (C := RX4) (T := TX4) (N := 17) hx hb hts hin_4 hown hK hP 0 rfl rfl 4 (by decide) hf_13 (fun _ h9 => h9) rfl dX4_mend_67 ?_
        refine lv_iload_n hx hb dX4_mend_70 rfl (lv_at hl 1 rfl) ?_
        refine zq_iald hx hb hK hP 2 0 rfl rfl (j := j) (by omega) (by decide) dX4_mend_71 ?_
        rw [pk_us]
        refine lv_if_ne (tgt := 79) hx hb dX4_mend_72 (by decide) (fun _ => ?_) (fun c => absurd c (by decide))
        refine lv_iconst (v := 0) hx hb dX4_mend_79 (by decide) ?_
        have e_4 : (upd pl j (if la_weak ki ca j = true then 3 else 0)) = (upd pl j 3) := by first | with_reducible rfl | simp [zb, d_0, c_1, d_2]
        exact W.zret (v := 0) hx hb hr (by rfl) (zq_qi (by first | with_reducible rfl | simp [zb, d_0, c_1, d_2]) (by rw [e_4]; exact hP) hK (by rw [e_4]; exact hD) hS) hS.2.2 dX4_mend_80
  · have d_0 := zb_eq c_0
    exact absurd (in_b_ok hj (by omega)) (by rw [d_0]; decide)

set_option maxHeartbeats 4000000 in
set_option maxRecDepth 100000 in
theorem c_X4_below (l : Launch) (dC : Nat → ClassId) (dI : Nat → Nat → Nat) (b : Nat → Nat) (cI cZ cD : ClassId) (mt mh : Int32) (ki pl tu le : Nat → Int32) (ch ca : Nat → UInt64) (N M mb ma : Nat) (wa la si bo al : Nat → Int32) (hN : N ≤ 40) (hM : M ≤ 30) (hmb : mb ≤ 30) (hma : ma ≤ 60) (sz : Nat) : zq_Mi l yX4_below wsX4_below ({ frames := 0, cells := 0, slots := 0, locals := 0 } : Room) (dC, dI) (zq_T cI cZ cD) [.ref (b 0)] (wMo b cI cZ cD mt mh (nI N) ki pl tu le ch ca (nI M) wa la si (nI mb) bo (nI ma) al) (nI mb) (wMo b cI cZ cD 0 mh (nI N) ki pl tu le ch ca (nI M) wa la si (nI mb) bo (nI ma) al) sz := by
  refine Met.ofW (cc := cX4_below) (maxL := 1) (ret := (some .int)) (by decide) rfl ?_
  intro p e s m args below meth c s₁ B hml hv
  obtain ⟨rfl, hsz, hP, hK, hD0⟩ := hv
  have hx := B.exec
  have hb := B.bytes
  have hr := B.returns
  have hts := atoms_spec (ws := wsX4_below) B.pre
  have hown : s.vm.findClass RX4 = some m.cls := findClass_of_methodNamed B.named
  have hlocks := B.notSynchronized
  subst hsz
  have hD := hD0.self (sz := s.heap.size)
  generalize hAe : va_A (wMo b cI cZ cD mt mh (nI N) ki pl tu le ch ca (nI M) wa la si (nI mb) bo (nI ma) al) s.heap.size = A at hD ⊢
  have hA : ∀ q : Nat, s.heap.size ≤ q → A q := fun q h => by rw [← hAe]; exact Or.inr h
  have hS : va_S A s.heap s.heap [] := va_S.rf
  have hP : va_P (dC, dI) vwCl (wMo b cI cZ cD mt mh (nI N) ki pl tu le ch ca (nI M) wa la si (nI mb) bo (nI ma) al) s.heap := hP
  have hl := lv_entry ([.ref (b 0)]) (n := 1) (Nat.le_of_ble_eq_true rfl)
  rw [lg_entry_eq]
  generalize (lg_sl ([.ref (b 0)]) ++ List.replicate (1 - (lg_sl ([.ref (b 0)])).length) Slot.unset).toArray = ls at hl ⊢
  have hl : lv_has ls 1 [(0, .ref (b 0))] := hl
  have hf_45 := hts (.fieldLink RX4 45 "LampRoomModel" "thrown" "I") (by decide +kernel)
  have hin_4 : ∀ w ∈ wsX40, w ∈ wsX4_below := by decide +kernel
  have hf_85 := hts (.fieldLink RX4 85 "LampRoomModel" "below" "I") (by decide +kernel)
  refine lv_aload_n hx hb dX4_below_0 rfl (lv_at hl 0 rfl) ?_
  refine lv_iconst (v := 0) hx hb dX4_below_1 (by decide) ?_
  refine va_put (D := (dC, dI)) (ci := 4) (v := .int 0) (ty := .int) (C := RX4) (T := TX4) (N := 17) hx hb hts hin_4 tyX4 tyX4_ok nmX4 hown hK hP hD hS 0 rfl rfl 0 (by decide) hf_45 (fun _ h9 => h9) rfl (by decide +kernel) rfl rfl (Nat.le_of_ble_eq_true rfl) dX4_below_2 (fun H locs hP hD hS => ?_)
  have hP : va_P (dC, dI) vwCl (wMo b cI cZ cD 0 mh (nI N) ki pl tu le ch ca (nI M) wa la si (nI mb) bo (nI ma) al) H := hP
  have hD : va_D A (wMo b cI cZ cD 0 mh (nI N) ki pl tu le ch ca (nI M) wa la si (nI mb) bo (nI ma) al) := hD
  refine lv_aload_n hx hb dX4_below_5 rfl (lv_at hl 0 rfl) ?_
  refine va_get (D := (dC, dI)) (ci := 4) (v := .int (nI mb)) (C := RX4) (T := TX4) (N := 17) hx hb hts hin_4 hown hK hP 0 rfl rfl 13 (by decide) hf_85 (fun _ h9 => h9) rfl dX4_below_6 ?_
  exact W.iret (v := nI mb) hx hb hr (zq_qi rfl hP hK hD hS) hS.2.2 dX4_below_9

set_option maxHeartbeats 4000000 in
set_option maxRecDepth 100000 in
theorem c_X4_board_none (l : Launch) (dC : Nat → ClassId) (dI : Nat → Nat → Nat) (b : Nat → Nat) (cI cZ cD : ClassId) (mt mh : Int32) (ki pl tu le : Nat → Int32) (ch ca : Nat → UInt64) (N M mb ma : Nat) (wa la si bo al : Nat → Int32) (hN : N ≤ 40) (hM : M ≤ 30) (hmb : mb ≤ 30) (hma : ma ≤ 60) (x : Int32) (hx0 : in_b x 0 (nI mb - 1) = false) (sz : Nat) : zq_Mi l yX4_board wsX4_board ({ frames := 1, cells := 0, slots := 0, locals := 22 } : Room) (dC, dI) (zq_T cI cZ cD) [.ref (b 0), .int x] (wMo b cI cZ cD mt mh (nI N) ki pl tu le ch ca (nI M) wa la si (nI mb) bo (nI ma) al) (-1) (wMo b cI cZ cD 0 mh (nI N) ki pl tu le ch ca (nI M) wa la si (nI mb) bo (nI ma) al) sz := by
  refine Met.ofW (cc := cX4_board) (maxL := 2) (ret := (some .int)) (by decide) rfl ?_
  intro p e s m args below meth c s₁ B hml hv
  obtain ⟨rfl, hsz, hP, hK, hD0⟩ := hv
  have hx := B.exec
  have hb := B.bytes
  have hr := B.returns
  have hts := atoms_spec (ws := wsX4_board) B.pre
  have hown : s.vm.findClass RX4 = some m.cls := findClass_of_methodNamed B.named
  have hlocks := B.notSynchronized
  subst hsz
  have hD := hD0.self (sz := s.heap.size)
  generalize hAe : va_A (wMo b cI cZ cD mt mh (nI N) ki pl tu le ch ca (nI M) wa la si (nI mb) bo (nI ma) al) s.heap.size = A at hD ⊢
  have hA : ∀ q : Nat, s.heap.size ≤ q → A q := fun q h => by rw [← hAe]; exact Or.inr h
  have hS : va_S A s.heap s.heap [] := va_S.rf
  have hP : va_P (dC, dI) vwCl (wMo b cI cZ cD mt mh (nI N) ki pl tu le ch ca (nI M) wa la si (nI mb) bo (nI ma) al) s.heap := hP
  have hl := lv_entry ([.ref (b 0), .int x]) (n := 2) (Nat.le_of_ble_eq_true rfl)
  rw [lg_entry_eq]
  generalize (lg_sl ([.ref (b 0), .int x]) ++ List.replicate (2 - (lg_sl ([.ref (b 0), .int x])).length) Slot.unset).toArray = ls at hl ⊢
  have hl : lv_has ls 2 [(0, .ref (b 0)), (1, .int x)] := hl
  have hf_45 := hts (.fieldLink RX4 45 "LampRoomModel" "thrown" "I") (by decide +kernel)
  have hin_4 : ∀ w ∈ wsX40, w ∈ wsX4_board := by decide +kernel
  have hf_85 := hts (.fieldLink RX4 85 "LampRoomModel" "below" "I") (by decide +kernel)
  refine lv_aload_n hx hb dX4_board_0 rfl (lv_at hl 0 rfl) ?_
  refine lv_iconst (v := 0) hx hb dX4_board_1 (by decide) ?_
  refine va_put (D := (dC, dI)) (ci := 4) (v := .int 0) (ty := .int) (C := RX4) (T := TX4) (N := 17) hx hb hts hin_4 tyX4 tyX4_ok nmX4 hown hK hP hD hS 0 rfl rfl 0 (by decide) hf_45 (fun _ h9 => h9) rfl (by decide +kernel) rfl rfl (Nat.le_of_ble_eq_true rfl) dX4_board_2 (fun H locs hP hD hS => ?_)
  have hP : va_P (dC, dI) vwCl (wMo b cI cZ cD 0 mh (nI N) ki pl tu le ch ca (nI M) wa la si (nI mb) bo (nI ma) al) H := hP
  have hD : va_D A (wMo b cI cZ cD 0 mh (nI N) ki pl tu le ch ca (nI M) wa la si (nI mb) bo (nI ma) al) := hD
  refine lv_iload_n hx hb dX4_board_5 rfl (lv_at hl 1 rfl) ?_
  refine lv_iconst (v := 0) hx hb dX4_board_6 (by decide) ?_
  refine lv_aload_n hx hb dX4_board_7 rfl (lv_at hl 0 rfl) ?_
  refine va_get (D := (dC, dI)) (ci := 4) (v := .int (nI mb)) (C := RX4) (T := TX4) (N := 17) hx hb hts hin_4 hown hK hP 0 rfl rfl 13 (by decide) hf_85 (fun _ h9 => h9) rfl dX4_board_8 ?_
  refine lv_iconst (v := 1) hx hb dX4_board_11 (by decide) ?_
  refine t_isub hx hb dX4_board_12 (v := (nI mb) - 1) (rfl) ?_
  refine zq_cSi (As := [.int x, .int 0, .int ((nI mb) - 1)]) (rest := []) ⟨hx, hb, hml, hown, hts⟩ (c_X4_in l x 0 ((nI mb) - 1)) (va_cwS 3 hts gX4_board_X4_in rfl rfl rfl (by decide +kernel) ⟨Nat.le_of_ble_eq_true rfl, Nat.le_of_ble_eq_true rfl⟩) hP hS rfl hl.1 rfl (Nat.le_of_ble_eq_true rfl) dX4_board_13 ⟨Nat.zero_le _, Nat.zero_le _⟩ (fun H locs hP hS => ?_)
  refine lv_if_eq (tgt := 28) hx hb dX4_board_16 (by decide) (fun c_0 => ?_) (fun c_0 => ?_)
  · have d_0 := zb_eq c_0
    refine lv_iconst (v := (-1)) hx hb dX4_board_28 (by decide) ?_
    exact W.iret (v := (-1)) hx hb hr (zq_qi rfl hP hK hD hS) hS.2.2 dX4_board_29
  · have d_0 := zb_ne c_0
    exact absurd hx0 (by rw [d_0]; decide)

set_option maxHeartbeats 4000000 in
set_option maxRecDepth 100000 in
theorem c_X4_board_ok (l : Launch) (dC : Nat → ClassId) (dI : Nat → Nat → Nat) (b : Nat → Nat) (cI cZ cD : ClassId) (mt mh : Int32) (ki pl tu le : Nat → Int32) (ch ca : Nat → UInt64) (N M mb ma : Nat) (wa la si bo al : Nat → Int32) (hN : N ≤ 40) (hM : M ≤ 30) (hmb : mb ≤ 30) (hma : ma ≤ 60) (i : Nat) (hi : i < mb) (sz : Nat) : zq_Mi l yX4_board wsX4_board ({ frames := 1, cells := 0, slots := 0, locals := 22 } : Room) (dC, dI) (zq_T cI cZ cD) [.ref (b 0), .int (nI i)] (wMo b cI cZ cD mt mh (nI N) ki pl tu le ch ca (nI M) wa la si (nI mb) bo (nI ma) al) (bo i) (wMo b cI cZ cD 0 mh (nI N) ki pl tu le ch ca (nI M) wa la si (nI mb) bo (nI ma) al) sz := by
  refine Met.ofW (cc := cX4_board) (maxL := 2) (ret := (some .int)) (by decide) rfl ?_
  intro p e s m args below meth c s₁ B hml hv
  obtain ⟨rfl, hsz, hP, hK, hD0⟩ := hv
  have hx := B.exec
  have hb := B.bytes
  have hr := B.returns
  have hts := atoms_spec (ws := wsX4_board) B.pre
  have hown : s.vm.findClass RX4 = some m.cls := findClass_of_methodNamed B.named
  have hlocks := B.notSynchronized
  subst hsz
  have hD := hD0.self (sz := s.heap.size)
  generalize hAe : va_A (wMo b cI cZ cD mt mh (nI N) ki pl tu le ch ca (nI M) wa la si (nI mb) bo (nI ma) al) s.heap.size = A at hD ⊢
  have hA : ∀ q : Nat, s.heap.size ≤ q → A q := fun q h => by rw [← hAe]; exact Or.inr h
  have hS : va_S A s.heap s.heap [] := va_S.rf
  have hP : va_P (dC, dI) vwCl (wMo b cI cZ cD mt mh (nI N) ki pl tu le ch ca (nI M) wa la si (nI mb) bo (nI ma) al) s.heap := hP
  have hl := lv_entry ([.ref (b 0), .int (nI i)]) (n := 2) (Nat.le_of_ble_eq_true rfl)
  rw [lg_entry_eq]
  generalize (lg_sl ([.ref (b 0), .int (nI i)]) ++ List.replicate (2 - (lg_sl ([.ref (b 0), .int (nI i)])).length) Slot.unset).toArray = ls at hl ⊢
  have hl : lv_has ls 2 [(0, .ref (b 0)), (1, .int (nI i))] := hl
  have hf_45 := hts (.fieldLink RX4 45 "LampRoomModel" "thrown" "I") (by decide +kernel)
  have hin_4 : ∀ w ∈ wsX40, w ∈ wsX4_board := by decide +kernel
  have hf_85 := hts (.fieldLink RX4 85 "LampRoomModel" "below" "I") (by decide +kernel)
  have hf_39 := hts (.fieldLink RX4 39 "LampRoomModel" "board" "[I") (by decide +kernel)
  refine lv_aload_n hx hb dX4_board_0 rfl (lv_at hl 0 rfl) ?_
  refine lv_iconst (v := 0) hx hb dX4_board_1 (by decide) ?_
  refine va_put (D := (dC, dI)) (ci := 4) (v := .int 0) (ty := .int) (C := RX4) (T := TX4) (N := 17) hx hb hts hin_4 tyX4 tyX4_ok nmX4 hown hK hP hD hS 0 rfl rfl 0 (by decide) hf_45 (fun _ h9 => h9) rfl (by decide +kernel) rfl rfl (Nat.le_of_ble_eq_true rfl) dX4_board_2 (fun H locs hP hD hS => ?_)
  have hP : va_P (dC, dI) vwCl (wMo b cI cZ cD 0 mh (nI N) ki pl tu le ch ca (nI M) wa la si (nI mb) bo (nI ma) al) H := hP
  have hD : va_D A (wMo b cI cZ cD 0 mh (nI N) ki pl tu le ch ca (nI M) wa la si (nI mb) bo (nI ma) al) := hD
  refine lv_iload_n hx hb dX4_board_5 rfl (lv_at hl 1 rfl) ?_
  refine lv_iconst (v := 0) hx hb dX4_board_6 (by decide) ?_
  refine lv_aload_n hx hb dX4_board_7 rfl (lv_at hl 0 rfl) ?_
  refine va_get (D := (dC, dI)) (ci := 4) (v := .int (nI mb)) (C := RX4) (T := TX4) (N := 17) hx hb hts hin_4 hown hK hP 0 rfl rfl 13 (by decide) hf_85 (fun _ h9 => h9) rfl dX4_board_8 ?_
  refine lv_iconst (v := 1) hx hb dX4_board_11 (by decide) ?_
  refine t_isub hx hb dX4_board_12 (v := (nI mb) - 1) (rfl) ?_
  refine zq_cSi (As := [.int (nI i), .int 0, .int ((nI mb) - 1)]) (rest := []) ⟨hx, hb, hml, hown, hts⟩ (c_X4_in l (nI i) 0 ((nI mb) - 1)) (va_cwS 3 hts gX4_board_X4_in rfl rfl rfl (by decide +kernel) ⟨Nat.le_of_ble_eq_true rfl, Nat.le_of_ble_eq_true rfl⟩) hP hS rfl hl.1 rfl (Nat.le_of_ble_eq_true rfl) dX4_board_13 ⟨Nat.zero_le _, Nat.zero_le _⟩ (fun H locs hP hS => ?_)
  refine lv_if_eq (tgt := 28) hx hb dX4_board_16 (by decide) (fun c_0 => ?_) (fun c_0 => ?_)
  · have d_0 := zb_eq c_0
    exact absurd (in_b_ok hi (by omega)) (by rw [d_0]; decide)
  · have d_0 := zb_ne c_0
    refine lv_aload_n hx hb dX4_board_19 rfl (lv_at hl 0 rfl) ?_
    refine va_get (D := (dC, dI)) (ci := 4) (v := .ref (b 10)) (C := RX4) (T := TX4) (N := 17) hx hb hts hin_4 hown hK hP 0 rfl rfl 14 (by decide) hf_39 (fun _ h9 => h9) rfl dX4_board_20 ?_
    refine lv_iload_n hx hb dX4_board_23 rfl (lv_at hl 1 rfl) ?_
    refine zq_iald hx hb hK hP 10 0 rfl rfl (j := i) (by omega) (by decide) dX4_board_24 ?_
    refine lv_goto (tgt := 29) hx hb dX4_board_25 (by decide) ?_
    exact W.iret (v := bo i) hx hb hr (zq_qi rfl hP hK hD hS) hS.2.2 dX4_board_29

set_option maxHeartbeats 4000000 in
set_option maxRecDepth 100000 in
theorem c_X4_alarm_none (l : Launch) (dC : Nat → ClassId) (dI : Nat → Nat → Nat) (b : Nat → Nat) (cI cZ cD : ClassId) (mt mh : Int32) (ki pl tu le : Nat → Int32) (ch ca : Nat → UInt64) (N M mb ma : Nat) (wa la si bo al : Nat → Int32) (hN : N ≤ 40) (hM : M ≤ 30) (hmb : mb ≤ 30) (hma : ma ≤ 60) (x : Int32) (hx0 : in_b x 0 (nI ma - 1) = false) (sz : Nat) : zq_Mi l yX4_alarm wsX4_alarm ({ frames := 1, cells := 0, slots := 0, locals := 22 } : Room) (dC, dI) (zq_T cI cZ cD) [.ref (b 0), .int x] (wMo b cI cZ cD mt mh (nI N) ki pl tu le ch ca (nI M) wa la si (nI mb) bo (nI ma) al) (-1) (wMo b cI cZ cD 0 mh (nI N) ki pl tu le ch ca (nI M) wa la si (nI mb) bo (nI ma) al) sz := by
  refine Met.ofW (cc := cX4_alarm) (maxL := 2) (ret := (some .int)) (by decide) rfl ?_
  intro p e s m args below meth c s₁ B hml hv
  obtain ⟨rfl, hsz, hP, hK, hD0⟩ := hv
  have hx := B.exec
  have hb := B.bytes
  have hr := B.returns
  have hts := atoms_spec (ws := wsX4_alarm) B.pre
  have hown : s.vm.findClass RX4 = some m.cls := findClass_of_methodNamed B.named
  have hlocks := B.notSynchronized
  subst hsz
  have hD := hD0.self (sz := s.heap.size)
  generalize hAe : va_A (wMo b cI cZ cD mt mh (nI N) ki pl tu le ch ca (nI M) wa la si (nI mb) bo (nI ma) al) s.heap.size = A at hD ⊢
  have hA : ∀ q : Nat, s.heap.size ≤ q → A q := fun q h => by rw [← hAe]; exact Or.inr h
  have hS : va_S A s.heap s.heap [] := va_S.rf
  have hP : va_P (dC, dI) vwCl (wMo b cI cZ cD mt mh (nI N) ki pl tu le ch ca (nI M) wa la si (nI mb) bo (nI ma) al) s.heap := hP
  have hl := lv_entry ([.ref (b 0), .int x]) (n := 2) (Nat.le_of_ble_eq_true rfl)
  rw [lg_entry_eq]
  generalize (lg_sl ([.ref (b 0), .int x]) ++ List.replicate (2 - (lg_sl ([.ref (b 0), .int x])).length) Slot.unset).toArray = ls at hl ⊢
  have hl : lv_has ls 2 [(0, .ref (b 0)), (1, .int x)] := hl
  have hf_45 := hts (.fieldLink RX4 45 "LampRoomModel" "thrown" "I") (by decide +kernel)
  have hin_4 : ∀ w ∈ wsX40, w ∈ wsX4_alarm := by decide +kernel
  have hf_88 := hts (.fieldLink RX4 88 "LampRoomModel" "alarms" "I") (by decide +kernel)
  refine lv_aload_n hx hb dX4_alarm_0 rfl (lv_at hl 0 rfl) ?_
  refine lv_iconst (v := 0) hx hb dX4_alarm_1 (by decide) ?_
  refine va_put (D := (dC, dI)) (ci := 4) (v := .int 0) (ty := .int) (C := RX4) (T := TX4) (N := 17) hx hb hts hin_4 tyX4 tyX4_ok nmX4 hown hK hP hD hS 0 rfl rfl 0 (by decide) hf_45 (fun _ h9 => h9) rfl (by decide +kernel) rfl rfl (Nat.le_of_ble_eq_true rfl) dX4_alarm_2 (fun H locs hP hD hS => ?_)
  have hP : va_P (dC, dI) vwCl (wMo b cI cZ cD 0 mh (nI N) ki pl tu le ch ca (nI M) wa la si (nI mb) bo (nI ma) al) H := hP
  have hD : va_D A (wMo b cI cZ cD 0 mh (nI N) ki pl tu le ch ca (nI M) wa la si (nI mb) bo (nI ma) al) := hD
  refine lv_iload_n hx hb dX4_alarm_5 rfl (lv_at hl 1 rfl) ?_
  refine lv_iconst (v := 0) hx hb dX4_alarm_6 (by decide) ?_
  refine lv_aload_n hx hb dX4_alarm_7 rfl (lv_at hl 0 rfl) ?_
  refine va_get (D := (dC, dI)) (ci := 4) (v := .int (nI ma)) (C := RX4) (T := TX4) (N := 17) hx hb hts hin_4 hown hK hP 0 rfl rfl 15 (by decide) hf_88 (fun _ h9 => h9) rfl dX4_alarm_8 ?_
  refine lv_iconst (v := 1) hx hb dX4_alarm_11 (by decide) ?_
  refine t_isub hx hb dX4_alarm_12 (v := (nI ma) - 1) (rfl) ?_
  refine zq_cSi (As := [.int x, .int 0, .int ((nI ma) - 1)]) (rest := []) ⟨hx, hb, hml, hown, hts⟩ (c_X4_in l x 0 ((nI ma) - 1)) (va_cwS 3 hts gX4_alarm_X4_in rfl rfl rfl (by decide +kernel) ⟨Nat.le_of_ble_eq_true rfl, Nat.le_of_ble_eq_true rfl⟩) hP hS rfl hl.1 rfl (Nat.le_of_ble_eq_true rfl) dX4_alarm_13 ⟨Nat.zero_le _, Nat.zero_le _⟩ (fun H locs hP hS => ?_)
  refine lv_if_eq (tgt := 28) hx hb dX4_alarm_16 (by decide) (fun c_0 => ?_) (fun c_0 => ?_)
  · have d_0 := zb_eq c_0
    refine lv_iconst (v := (-1)) hx hb dX4_alarm_28 (by decide) ?_
    exact W.iret (v := (-1)) hx hb hr (zq_qi rfl hP hK hD hS) hS.2.2 dX4_alarm_29
  · have d_0 := zb_ne c_0
    exact absurd hx0 (by rw [d_0]; decide)

set_option maxHeartbeats 4000000 in
set_option maxRecDepth 100000 in
theorem c_X4_alarm_ok (l : Launch) (dC : Nat → ClassId) (dI : Nat → Nat → Nat) (b : Nat → Nat) (cI cZ cD : ClassId) (mt mh : Int32) (ki pl tu le : Nat → Int32) (ch ca : Nat → UInt64) (N M mb ma : Nat) (wa la si bo al : Nat → Int32) (hN : N ≤ 40) (hM : M ≤ 30) (hmb : mb ≤ 30) (hma : ma ≤ 60) (i : Nat) (hi : i < ma) (sz : Nat) : zq_Mi l yX4_alarm wsX4_alarm ({ frames := 1, cells := 0, slots := 0, locals := 22 } : Room) (dC, dI) (zq_T cI cZ cD) [.ref (b 0), .int (nI i)] (wMo b cI cZ cD mt mh (nI N) ki pl tu le ch ca (nI M) wa la si (nI mb) bo (nI ma) al) (al i) (wMo b cI cZ cD 0 mh (nI N) ki pl tu le ch ca (nI M) wa la si (nI mb) bo (nI ma) al) sz := by
  refine Met.ofW (cc := cX4_alarm) (maxL := 2) (ret := (some .int)) (by decide) rfl ?_
  intro p e s m args below meth c s₁ B hml hv
  obtain ⟨rfl, hsz, hP, hK, hD0⟩ := hv
  have hx := B.exec
  have hb := B.bytes
  have hr := B.returns
  have hts := atoms_spec (ws := wsX4_alarm) B.pre
  have hown : s.vm.findClass RX4 = some m.cls := findClass_of_methodNamed B.named
  have hlocks := B.notSynchronized
  subst hsz
  have hD := hD0.self (sz := s.heap.size)
  generalize hAe : va_A (wMo b cI cZ cD mt mh (nI N) ki pl tu le ch ca (nI M) wa la si (nI mb) bo (nI ma) al) s.heap.size = A at hD ⊢
  have hA : ∀ q : Nat, s.heap.size ≤ q → A q := fun q h => by rw [← hAe]; exact Or.inr h
  have hS : va_S A s.heap s.heap [] := va_S.rf
  have hP : va_P (dC, dI) vwCl (wMo b cI cZ cD mt mh (nI N) ki pl tu le ch ca (nI M) wa la si (nI mb) bo (nI ma) al) s.heap := hP
  have hl := lv_entry ([.ref (b 0), .int (nI i)]) (n := 2) (Nat.le_of_ble_eq_true rfl)
  rw [lg_entry_eq]
  generalize (lg_sl ([.ref (b 0), .int (nI i)]) ++ List.replicate (2 - (lg_sl ([.ref (b 0), .int (nI i)])).length) Slot.unset).toArray = ls at hl ⊢
  have hl : lv_has ls 2 [(0, .ref (b 0)), (1, .int (nI i))] := hl
  have hf_45 := hts (.fieldLink RX4 45 "LampRoomModel" "thrown" "I") (by decide +kernel)
  have hin_4 : ∀ w ∈ wsX40, w ∈ wsX4_alarm := by decide +kernel
  have hf_88 := hts (.fieldLink RX4 88 "LampRoomModel" "alarms" "I") (by decide +kernel)
  have hf_42 := hts (.fieldLink RX4 42 "LampRoomModel" "alarm" "[I") (by decide +kernel)
  refine lv_aload_n hx hb dX4_alarm_0 rfl (lv_at hl 0 rfl) ?_
  refine lv_iconst (v := 0) hx hb dX4_alarm_1 (by decide) ?_
  refine va_put (D := (dC, dI)) (ci := 4) (v := .int 0) (ty := .int) (C := RX4) (T := TX4) (N := 17) hx hb hts hin_4 tyX4 tyX4_ok nmX4 hown hK hP hD hS 0 rfl rfl 0 (by decide) hf_45 (fun _ h9 => h9) rfl (by decide +kernel) rfl rfl (Nat.le_of_ble_eq_true rfl) dX4_alarm_2 (fun H locs hP hD hS => ?_)
  have hP : va_P (dC, dI) vwCl (wMo b cI cZ cD 0 mh (nI N) ki pl tu le ch ca (nI M) wa la si (nI mb) bo (nI ma) al) H := hP
  have hD : va_D A (wMo b cI cZ cD 0 mh (nI N) ki pl tu le ch ca (nI M) wa la si (nI mb) bo (nI ma) al) := hD
  refine lv_iload_n hx hb dX4_alarm_5 rfl (lv_at hl 1 rfl) ?_
  refine lv_iconst (v := 0) hx hb dX4_alarm_6 (by decide) ?_
  refine lv_aload_n hx hb dX4_alarm_7 rfl (lv_at hl 0 rfl) ?_
  refine va_get (D := (dC, dI)) (ci := 4) (v := .int (nI ma)) (C := RX4) (T := TX4) (N := 17) hx hb hts hin_4 hown hK hP 0 rfl rfl 15 (by decide) hf_88 (fun _ h9 => h9) rfl dX4_alarm_8 ?_
  refine lv_iconst (v := 1) hx hb dX4_alarm_11 (by decide) ?_
  refine t_isub hx hb dX4_alarm_12 (v := (nI ma) - 1) (rfl) ?_
  refine zq_cSi (As := [.int (nI i), .int 0, .int ((nI ma) - 1)]) (rest := []) ⟨hx, hb, hml, hown, hts⟩ (c_X4_in l (nI i) 0 ((nI ma) - 1)) (va_cwS 3 hts gX4_alarm_X4_in rfl rfl rfl (by decide +kernel) ⟨Nat.le_of_ble_eq_true rfl, Nat.le_of_ble_eq_true rfl⟩) hP hS rfl hl.1 rfl (Nat.le_of_ble_eq_true rfl) dX4_alarm_13 ⟨Nat.zero_le _, Nat.zero_le _⟩ (fun H locs hP hS => ?_)
  refine lv_if_eq (tgt := 28) hx hb dX4_alarm_16 (by decide) (fun c_0 => ?_) (fun c_0 => ?_)
  · have d_0 := zb_eq c_0
    exact absurd (in_b_ok hi (by omega)) (by rw [d_0]; decide)
  · have d_0 := zb_ne c_0
    refine lv_aload_n hx hb dX4_alarm_19 rfl (lv_at hl 0 rfl) ?_
    refine va_get (D := (dC, dI)) (ci := 4) (v := .ref (b 11)) (C := RX4) (T := TX4) (N := 17) hx hb hts hin_4 hown hK hP 0 rfl rfl 16 (by decide) hf_42 (fun _ h9 => h9) rfl dX4_alarm_20 ?_
    refine lv_iload_n hx hb dX4_alarm_23 rfl (lv_at hl 1 rfl) ?_
    refine zq_iald hx hb hK hP 11 0 rfl rfl (j := i) (by omega) (by decide) dX4_alarm_24 ?_
    refine lv_goto (tgt := 29) hx hb dX4_alarm_25 (by decide) ?_
    exact W.iret (v := al i) hx hb hr (zq_qi rfl hP hK hD hS) hS.2.2 dX4_alarm_29

set_option maxHeartbeats 4000000 in
set_option maxRecDepth 100000 in
theorem c_X4_lampOf_bad (l : Launch) (dC : Nat → ClassId) (dI : Nat → Nat → Nat) (b : Nat → Nat) (cI cZ cD : ClassId) (mt mh : Int32) (ki pl tu le : Nat → Int32) (ch ca : Nat → UInt64) (N M mb ma : Nat) (wa la si bo al : Nat → Int32) (hN : N ≤ 40) (hM : M ≤ 30) (hmb : mb ≤ 30) (hma : ma ≤ 60) (x : Int32) (hx0 : in_b x 0 (nI M - 1) = false) (sz : Nat) : zq_Mi l yX4_lampOf wsX4_lampOf ({ frames := 2, cells := 0, slots := 0, locals := 43 } : Room) (dC, dI) (zq_T cI cZ cD) [.ref (b 0), .int x] (wMo b cI cZ cD mt mh (nI N) ki pl tu le ch ca (nI M) wa la si (nI mb) bo (nI ma) al) 0 (wMo b cI cZ cD 1 mh (nI N) ki pl tu le ch ca (nI M) wa la si (nI mb) bo (nI ma) al) sz := by
  refine Met.ofW (cc := cX4_lampOf) (maxL := 2) (ret := (some .int)) (by decide) rfl ?_
  intro p e s m args below meth c s₁ B hml hv
  obtain ⟨rfl, hsz, hP, hK, hD0⟩ := hv
  have hx := B.exec
  have hb := B.bytes
  have hr := B.returns
  have hts := atoms_spec (ws := wsX4_lampOf) B.pre
  have hown : s.vm.findClass RX4 = some m.cls := findClass_of_methodNamed B.named
  have hlocks := B.notSynchronized
  subst hsz
  have hD := hD0.self (sz := s.heap.size)
  generalize hAe : va_A (wMo b cI cZ cD mt mh (nI N) ki pl tu le ch ca (nI M) wa la si (nI mb) bo (nI ma) al) s.heap.size = A at hD ⊢
  have hA : ∀ q : Nat, s.heap.size ≤ q → A q := fun q h => by rw [← hAe]; exact Or.inr h
  have hS : va_S A s.heap s.heap [] := va_S.rf
  have hP : va_P (dC, dI) vwCl (wMo b cI cZ cD mt mh (nI N) ki pl tu le ch ca (nI M) wa la si (nI mb) bo (nI ma) al) s.heap := hP
  have hl := lv_entry ([.ref (b 0), .int x]) (n := 2) (Nat.le_of_ble_eq_true rfl)
  rw [lg_entry_eq]
  generalize (lg_sl ([.ref (b 0), .int x]) ++ List.replicate (2 - (lg_sl ([.ref (b 0), .int x])).length) Slot.unset).toArray = ls at hl ⊢
  have hl : lv_has ls 2 [(0, .ref (b 0)), (1, .int x)] := hl
  have hf_45 := hts (.fieldLink RX4 45 "LampRoomModel" "thrown" "I") (by decide +kernel)
  have hin_4 : ∀ w ∈ wsX40, w ∈ wsX4_lampOf := by decide +kernel
  refine lv_aload_n hx hb dX4_lampOf_0 rfl (lv_at hl 0 rfl) ?_
  refine lv_aload_n hx hb dX4_lampOf_1 rfl (lv_at hl 0 rfl) ?_
  refine lv_iload_n hx hb dX4_lampOf_2 rfl (lv_at hl 1 rfl) ?_
  refine zq_cVi (As := [.int x]) (rest := [.ref (b 0)]) (wc := (wMo b cI cZ cD mt mh (nI N) ki pl tu le ch ca (nI M) wa la si (nI mb) bo (nI ma) al)) (w1 := (wMo b cI cZ cD mt mh (nI N) ki pl tu le ch ca (nI M) wa la si (nI mb) bo (nI ma) al)) (wr := ([] : va_W)) (ws' := (wMo b cI cZ cD mt mh (nI N) ki pl tu le ch ca (nI M) wa la si (nI mb) bo (nI ma) al)) ⟨hx, hb, hml, hown, hts⟩ (c_X4_isMiner l dC dI b cI cZ cD mt mh ki pl tu le ch ca N M mb ma wa la si bo al (by omega) (by omega) (by omega) (by omega) x s.heap.size) (cwV 1 hts gX4_lampOf_X4_isMiner rfl rfl rfl (by decide +kernel) ⟨Nat.le_of_ble_eq_true rfl, Nat.le_of_ble_eq_true rfl⟩) hK hP hD hS hA [0, 1, 2, 3, 4, 5, 6, 7, 8, 9, 10, 11] [] [0, 1, 2, 3, 4, 5, 6, 7, 8, 9, 10, 11] rfl rfl rfl rfl (by decide) rfl rfl (ci := 4) rfl 0 rfl rfl hl.1 rfl (Nat.le_of_ble_eq_true rfl) dX4_lampOf_3 ⟨Nat.zero_le _, Nat.zero_le _⟩ (fun H locs hP hD hS => ?_)
  refine lv_if_eq (tgt := 13) hx hb dX4_lampOf_6 (by decide) (fun c_0 => ?_) (fun c_0 => ?_)
  · have d_0 := zb_eq c_0
    refine lv_iconst (v := 1) hx hb dX4_lampOf_13 (by decide) ?_
    refine va_put (D := (dC, dI)) (ci := 4) (v := .int 1) (ty := .int) (C := RX4) (T := TX4) (N := 17) hx hb hts hin_4 tyX4 tyX4_ok nmX4 hown hK hP hD hS 0 rfl rfl 0 (by decide) hf_45 (fun _ h9 => h9) rfl (by decide +kernel) rfl rfl (Nat.le_of_ble_eq_true rfl) dX4_lampOf_14 (fun H locs hP hD hS => ?_)
    have hP : va_P (dC, dI) vwCl (wMo b cI cZ cD 1 mh (nI N) ki pl tu le ch ca (nI M) wa la si (nI mb) bo (nI ma) al) H := hP
    have hD : va_D A (wMo b cI cZ cD 1 mh (nI N) ki pl tu le ch ca (nI M) wa la si (nI mb) bo (nI ma) al) := hD
    refine lv_aload_n hx hb dX4_lampOf_17 rfl (lv_at hl 0 rfl) ?_
    refine va_get (D := (dC, dI)) (ci := 4) (v := .int 1) (C := RX4) (T := TX4) (N := 17) hx hb hts hin_4 hown hK hP 0 rfl rfl 0 (by decide) hf_45 (fun _ h9 => h9) rfl dX4_lampOf_18 ?_
    refine lv_if_le (tgt := 28) hx hb dX4_lampOf_21 (by decide) (fun c => absurd c (by decide)) (fun _ => ?_)
    refine lv_iconst (v := 0) hx hb dX4_lampOf_24 (by decide) ?_
    refine lv_goto (tgt := 34) hx hb dX4_lampOf_25 (by decide) ?_
    exact W.iret (v := 0) hx hb hr (zq_qi rfl hP hK hD hS) hS.2.2 dX4_lampOf_34
  · have d_0 := zb_ne c_0
    exact absurd hx0 (by rw [d_0]; decide)

set_option maxHeartbeats 4000000 in
set_option maxRecDepth 100000 in
theorem c_X4_hoursBelow_bad (l : Launch) (dC : Nat → ClassId) (dI : Nat → Nat → Nat) (b : Nat → Nat) (cI cZ cD : ClassId) (mt mh : Int32) (ki pl tu le : Nat → Int32) (ch ca : Nat → UInt64) (N M mb ma : Nat) (wa la si bo al : Nat → Int32) (hN : N ≤ 40) (hM : M ≤ 30) (hmb : mb ≤ 30) (hma : ma ≤ 60) (x : Int32) (hx0 : in_b x 0 (nI M - 1) = false) (sz : Nat) : zq_Mi l yX4_hoursBelow wsX4_hoursBelow ({ frames := 2, cells := 0, slots := 0, locals := 43 } : Room) (dC, dI) (zq_T cI cZ cD) [.ref (b 0), .int x] (wMo b cI cZ cD mt mh (nI N) ki pl tu le ch ca (nI M) wa la si (nI mb) bo (nI ma) al) 0 (wMo b cI cZ cD 1 mh (nI N) ki pl tu le ch ca (nI M) wa la si (nI mb) bo (nI ma) al) sz := by
  refine Met.ofW (cc := cX4_hoursBelow) (maxL := 2) (ret := (some .int)) (by decide) rfl ?_
  intro p e s m args below meth c s₁ B hml hv
  obtain ⟨rfl, hsz, hP, hK, hD0⟩ := hv
  have hx := B.exec
  have hb := B.bytes
  have hr := B.returns
  have hts := atoms_spec (ws := wsX4_hoursBelow) B.pre
  have hown : s.vm.findClass RX4 = some m.cls := findClass_of_methodNamed B.named
  have hlocks := B.notSynchronized
  subst hsz
  have hD := hD0.self (sz := s.heap.size)
  generalize hAe : va_A (wMo b cI cZ cD mt mh (nI N) ki pl tu le ch ca (nI M) wa la si (nI mb) bo (nI ma) al) s.heap.size = A at hD ⊢
  have hA : ∀ q : Nat, s.heap.size ≤ q → A q := fun q h => by rw [← hAe]; exact Or.inr h
  have hS : va_S A s.heap s.heap [] := va_S.rf
  have hP : va_P (dC, dI) vwCl (wMo b cI cZ cD mt mh (nI N) ki pl tu le ch ca (nI M) wa la si (nI mb) bo (nI ma) al) s.heap := hP
  have hl := lv_entry ([.ref (b 0), .int x]) (n := 2) (Nat.le_of_ble_eq_true rfl)
  rw [lg_entry_eq]
  generalize (lg_sl ([.ref (b 0), .int x]) ++ List.replicate (2 - (lg_sl ([.ref (b 0), .int x])).length) Slot.unset).toArray = ls at hl ⊢
  have hl : lv_has ls 2 [(0, .ref (b 0)), (1, .int x)] := hl
  have hf_45 := hts (.fieldLink RX4 45 "LampRoomModel" "thrown" "I") (by decide +kernel)
  have hin_4 : ∀ w ∈ wsX40, w ∈ wsX4_hoursBelow := by decide +kernel
  refine lv_aload_n hx hb dX4_hoursBelow_0 rfl (lv_at hl 0 rfl) ?_
  refine lv_aload_n hx hb dX4_hoursBelow_1 rfl (lv_at hl 0 rfl) ?_
  refine lv_iload_n hx hb dX4_hoursBelow_2 rfl (lv_at hl 1 rfl) ?_
  refine zq_cVi (As := [.int x]) (rest := [.ref (b 0)]) (wc := (wMo b cI cZ cD mt mh (nI N) ki pl tu le ch ca (nI M) wa la si (nI mb) bo (nI ma) al)) (w1 := (wMo b cI cZ cD mt mh (nI N) ki pl tu le ch ca (nI M) wa la si (nI mb) bo (nI ma) al)) (wr := ([] : va_W)) (ws' := (wMo b cI cZ cD mt mh (nI N) ki pl tu le ch ca (nI M) wa la si (nI mb) bo (nI ma) al)) ⟨hx, hb, hml, hown, hts⟩ (c_X4_isMiner l dC dI b cI cZ cD mt mh ki pl tu le ch ca N M mb ma wa la si bo al (by omega) (by omega) (by omega) (by omega) x s.heap.size) (cwV 1 hts gX4_hoursBelow_X4_isMiner rfl rfl rfl (by decide +kernel) ⟨Nat.le_of_ble_eq_true rfl, Nat.le_of_ble_eq_true rfl⟩) hK hP hD hS hA [0, 1, 2, 3, 4, 5, 6, 7, 8, 9, 10, 11] [] [0, 1, 2, 3, 4, 5, 6, 7, 8, 9, 10, 11] rfl rfl rfl rfl (by decide) rfl rfl (ci := 4) rfl 0 rfl rfl hl.1 rfl (Nat.le_of_ble_eq_true rfl) dX4_hoursBelow_3 ⟨Nat.zero_le _, Nat.zero_le _⟩ (fun H locs hP hD hS => ?_)
  refine lv_if_eq (tgt := 13) hx hb dX4_hoursBelow_6 (by decide) (fun c_0 => ?_) (fun c_0 => ?_)
  · have d_0 := zb_eq c_0
    refine lv_iconst (v := 1) hx hb dX4_hoursBelow_13 (by decide) ?_
    refine va_put (D := (dC, dI)) (ci := 4) (v := .int 1) (ty := .int) (C := RX4) (T := TX4) (N := 17) hx hb hts hin_4 tyX4 tyX4_ok nmX4 hown hK hP hD hS 0 rfl rfl 0 (by decide) hf_45 (fun _ h9 => h9) rfl (by decide +kernel) rfl rfl (Nat.le_of_ble_eq_true rfl) dX4_hoursBelow_14 (fun H locs hP hD hS => ?_)
    have hP : va_P (dC, dI) vwCl (wMo b cI cZ cD 1 mh (nI N) ki pl tu le ch ca (nI M) wa la si (nI mb) bo (nI ma) al) H := hP
    have hD : va_D A (wMo b cI cZ cD 1 mh (nI N) ki pl tu le ch ca (nI M) wa la si (nI mb) bo (nI ma) al) := hD
    refine lv_aload_n hx hb dX4_hoursBelow_17 rfl (lv_at hl 0 rfl) ?_
    refine va_get (D := (dC, dI)) (ci := 4) (v := .int 1) (C := RX4) (T := TX4) (N := 17) hx hb hts hin_4 hown hK hP 0 rfl rfl 0 (by decide) hf_45 (fun _ h9 => h9) rfl dX4_hoursBelow_18 ?_
    refine lv_if_le (tgt := 28) hx hb dX4_hoursBelow_21 (by decide) (fun c => absurd c (by decide)) (fun _ => ?_)
    refine lv_iconst (v := 0) hx hb dX4_hoursBelow_24 (by decide) ?_
    refine lv_goto (tgt := 53) hx hb dX4_hoursBelow_25 (by decide) ?_
    exact W.iret (v := 0) hx hb hr (zq_qi rfl hP hK hD hS) hS.2.2 dX4_hoursBelow_53
  · have d_0 := zb_ne c_0
    exact absurd hx0 (by rw [d_0]; decide)

set_option maxHeartbeats 4000000 in
set_option maxRecDepth 100000 in
theorem c_X4_lightLeft_bad (l : Launch) (dC : Nat → ClassId) (dI : Nat → Nat → Nat) (b : Nat → Nat) (cI cZ cD : ClassId) (mt mh : Int32) (ki pl tu le : Nat → Int32) (ch ca : Nat → UInt64) (N M mb ma : Nat) (wa la si bo al : Nat → Int32) (hN : N ≤ 40) (hM : M ≤ 30) (hmb : mb ≤ 30) (hma : ma ≤ 60) (x : Int32) (hx0 : in_b x 0 (nI M - 1) = false) (sz : Nat) : zq_Mi l yX4_lightLeft wsX4_lightLeft ({ frames := 2, cells := 0, slots := 0, locals := 43 } : Room) (dC, dI) (zq_T cI cZ cD) [.ref (b 0), .int x] (wMo b cI cZ cD mt mh (nI N) ki pl tu le ch ca (nI M) wa la si (nI mb) bo (nI ma) al) 0 (wMo b cI cZ cD 1 mh (nI N) ki pl tu le ch ca (nI M) wa la si (nI mb) bo (nI ma) al) sz := by
  refine Met.ofW (cc := cX4_lightLeft) (maxL := 2) (ret := (some .int)) (by decide) rfl ?_
  intro p e s m args below meth c s₁ B hml hv
  obtain ⟨rfl, hsz, hP, hK, hD0⟩ := hv
  have hx := B.exec
  have hb := B.bytes
  have hr := B.returns
  have hts := atoms_spec (ws := wsX4_lightLeft) B.pre
  have hown : s.vm.findClass RX4 = some m.cls := findClass_of_methodNamed B.named
  have hlocks := B.notSynchronized
  subst hsz
  have hD := hD0.self (sz := s.heap.size)
  generalize hAe : va_A (wMo b cI cZ cD mt mh (nI N) ki pl tu le ch ca (nI M) wa la si (nI mb) bo (nI ma) al) s.heap.size = A at hD ⊢
  have hA : ∀ q : Nat, s.heap.size ≤ q → A q := fun q h => by rw [← hAe]; exact Or.inr h
  have hS : va_S A s.heap s.heap [] := va_S.rf
  have hP : va_P (dC, dI) vwCl (wMo b cI cZ cD mt mh (nI N) ki pl tu le ch ca (nI M) wa la si (nI mb) bo (nI ma) al) s.heap := hP
  have hl := lv_entry ([.ref (b 0), .int x]) (n := 2) (Nat.le_of_ble_eq_true rfl)
  rw [lg_entry_eq]
  generalize (lg_sl ([.ref (b 0), .int x]) ++ List.replicate (2 - (lg_sl ([.ref (b 0), .int x])).length) Slot.unset).toArray = ls at hl ⊢
  have hl : lv_has ls 2 [(0, .ref (b 0)), (1, .int x)] := hl
  have hf_45 := hts (.fieldLink RX4 45 "LampRoomModel" "thrown" "I") (by decide +kernel)
  have hin_4 : ∀ w ∈ wsX40, w ∈ wsX4_lightLeft := by decide +kernel
  refine lv_aload_n hx hb dX4_lightLeft_0 rfl (lv_at hl 0 rfl) ?_
  refine lv_aload_n hx hb dX4_lightLeft_1 rfl (lv_at hl 0 rfl) ?_
  refine lv_iload_n hx hb dX4_lightLeft_2 rfl (lv_at hl 1 rfl) ?_
  refine zq_cVi (As := [.int x]) (rest := [.ref (b 0)]) (wc := (wMo b cI cZ cD mt mh (nI N) ki pl tu le ch ca (nI M) wa la si (nI mb) bo (nI ma) al)) (w1 := (wMo b cI cZ cD mt mh (nI N) ki pl tu le ch ca (nI M) wa la si (nI mb) bo (nI ma) al)) (wr := ([] : va_W)) (ws' := (wMo b cI cZ cD mt mh (nI N) ki pl tu le ch ca (nI M) wa la si (nI mb) bo (nI ma) al)) ⟨hx, hb, hml, hown, hts⟩ (c_X4_isMiner l dC dI b cI cZ cD mt mh ki pl tu le ch ca N M mb ma wa la si bo al (by omega) (by omega) (by omega) (by omega) x s.heap.size) (cwV 1 hts gX4_lightLeft_X4_isMiner rfl rfl rfl (by decide +kernel) ⟨Nat.le_of_ble_eq_true rfl, Nat.le_of_ble_eq_true rfl⟩) hK hP hD hS hA [0, 1, 2, 3, 4, 5, 6, 7, 8, 9, 10, 11] [] [0, 1, 2, 3, 4, 5, 6, 7, 8, 9, 10, 11] rfl rfl rfl rfl (by decide) rfl rfl (ci := 4) rfl 0 rfl rfl hl.1 rfl (Nat.le_of_ble_eq_true rfl) dX4_lightLeft_3 ⟨Nat.zero_le _, Nat.zero_le _⟩ (fun H locs hP hD hS => ?_)
  refine lv_if_eq (tgt := 13) hx hb dX4_lightLeft_6 (by decide) (fun c_0 => ?_) (fun c_0 => ?_)
  · have d_0 := zb_eq c_0
    refine lv_iconst (v := 1) hx hb dX4_lightLeft_13 (by decide) ?_
    refine va_put (D := (dC, dI)) (ci := 4) (v := .int 1) (ty := .int) (C := RX4) (T := TX4) (N := 17) hx hb hts hin_4 tyX4 tyX4_ok nmX4 hown hK hP hD hS 0 rfl rfl 0 (by decide) hf_45 (fun _ h9 => h9) rfl (by decide +kernel) rfl rfl (Nat.le_of_ble_eq_true rfl) dX4_lightLeft_14 (fun H locs hP hD hS => ?_)
    have hP : va_P (dC, dI) vwCl (wMo b cI cZ cD 1 mh (nI N) ki pl tu le ch ca (nI M) wa la si (nI mb) bo (nI ma) al) H := hP
    have hD : va_D A (wMo b cI cZ cD 1 mh (nI N) ki pl tu le ch ca (nI M) wa la si (nI mb) bo (nI ma) al) := hD
    refine lv_aload_n hx hb dX4_lightLeft_17 rfl (lv_at hl 0 rfl) ?_
    refine va_get (D := (dC, dI)) (ci := 4) (v := .int 1) (C := RX4) (T := TX4) (N := 17) hx hb hts hin_4 hown hK hP 0 rfl rfl 0 (by decide) hf_45 (fun _ h9 => h9) rfl dX4_lightLeft_18 ?_
    refine lv_if_le (tgt := 28) hx hb dX4_lightLeft_21 (by decide) (fun c => absurd c (by decide)) (fun _ => ?_)
    refine lv_iconst (v := 0) hx hb dX4_lightLeft_24 (by decide) ?_
    refine lv_goto (tgt := 54) hx hb dX4_lightLeft_25 (by decide) ?_
    exact W.iret (v := 0) hx hb hr (zq_qi rfl hP hK hD hS) hS.2.2 dX4_lightLeft_54
  · have d_0 := zb_ne c_0
    exact absurd hx0 (by rw [d_0]; decide)

set_option maxHeartbeats 4000000 in
set_option maxRecDepth 100000 in
theorem c_X4_placeOf_bad (l : Launch) (dC : Nat → ClassId) (dI : Nat → Nat → Nat) (b : Nat → Nat) (cI cZ cD : ClassId) (mt mh : Int32) (ki pl tu le : Nat → Int32) (ch ca : Nat → UInt64) (N M mb ma : Nat) (wa la si bo al : Nat → Int32) (hN : N ≤ 40) (hM : M ≤ 30) (hmb : mb ≤ 30) (hma : ma ≤ 60) (x : Int32) (hx0 : in_b x 0 (nI N - 1) = false) (sz : Nat) : zq_Mi l yX4_placeOf wsX4_placeOf ({ frames := 2, cells := 0, slots := 0, locals := 43 } : Room) (dC, dI) (zq_T cI cZ cD) [.ref (b 0), .int x] (wMo b cI cZ cD mt mh (nI N) ki pl tu le ch ca (nI M) wa la si (nI mb) bo (nI ma) al) 0 (wMo b cI cZ cD 1 mh (nI N) ki pl tu le ch ca (nI M) wa la si (nI mb) bo (nI ma) al) sz := by
  refine Met.ofW (cc := cX4_placeOf) (maxL := 2) (ret := (some .int)) (by decide) rfl ?_
  intro p e s m args below meth c s₁ B hml hv
  obtain ⟨rfl, hsz, hP, hK, hD0⟩ := hv
  have hx := B.exec
  have hb := B.bytes
  have hr := B.returns
  have hts := atoms_spec (ws := wsX4_placeOf) B.pre
  have hown : s.vm.findClass RX4 = some m.cls := findClass_of_methodNamed B.named
  have hlocks := B.notSynchronized
  subst hsz
  have hD := hD0.self (sz := s.heap.size)
  generalize hAe : va_A (wMo b cI cZ cD mt mh (nI N) ki pl tu le ch ca (nI M) wa la si (nI mb) bo (nI ma) al) s.heap.size = A at hD ⊢
  have hA : ∀ q : Nat, s.heap.size ≤ q → A q := fun q h => by rw [← hAe]; exact Or.inr h
  have hS : va_S A s.heap s.heap [] := va_S.rf
  have hP : va_P (dC, dI) vwCl (wMo b cI cZ cD mt mh (nI N) ki pl tu le ch ca (nI M) wa la si (nI mb) bo (nI ma) al) s.heap := hP
  have hl := lv_entry ([.ref (b 0), .int x]) (n := 2) (Nat.le_of_ble_eq_true rfl)
  rw [lg_entry_eq]
  generalize (lg_sl ([.ref (b 0), .int x]) ++ List.replicate (2 - (lg_sl ([.ref (b 0), .int x])).length) Slot.unset).toArray = ls at hl ⊢
  have hl : lv_has ls 2 [(0, .ref (b 0)), (1, .int x)] := hl
  have hf_45 := hts (.fieldLink RX4 45 "LampRoomModel" "thrown" "I") (by decide +kernel)
  have hin_4 : ∀ w ∈ wsX40, w ∈ wsX4_placeOf := by decide +kernel
  refine lv_aload_n hx hb dX4_placeOf_0 rfl (lv_at hl 0 rfl) ?_
  refine lv_aload_n hx hb dX4_placeOf_1 rfl (lv_at hl 0 rfl) ?_
  refine lv_iload_n hx hb dX4_placeOf_2 rfl (lv_at hl 1 rfl) ?_
  refine zq_cVi (As := [.int x]) (rest := [.ref (b 0)]) (wc := (wMo b cI cZ cD mt mh (nI N) ki pl tu le ch ca (nI M) wa la si (nI mb) bo (nI ma) al)) (w1 := (wMo b cI cZ cD mt mh (nI N) ki pl tu le ch ca (nI M) wa la si (nI mb) bo (nI ma) al)) (wr := ([] : va_W)) (ws' := (wMo b cI cZ cD mt mh (nI N) ki pl tu le ch ca (nI M) wa la si (nI mb) bo (nI ma) al)) ⟨hx, hb, hml, hown, hts⟩ (c_X4_isLamp l dC dI b cI cZ cD mt mh ki pl tu le ch ca N M mb ma wa la si bo al (by omega) (by omega) (by omega) (by omega) x s.heap.size) (cwV 1 hts gX4_placeOf_X4_isLamp rfl rfl rfl (by decide +kernel) ⟨Nat.le_of_ble_eq_true rfl, Nat.le_of_ble_eq_true rfl⟩) hK hP hD hS hA [0, 1, 2, 3, 4, 5, 6, 7, 8, 9, 10, 11] [] [0, 1, 2, 3, 4, 5, 6, 7, 8, 9, 10, 11] rfl rfl rfl rfl (by decide) rfl rfl (ci := 4) rfl 0 rfl rfl hl.1 rfl (Nat.le_of_ble_eq_true rfl) dX4_placeOf_3 ⟨Nat.zero_le _, Nat.zero_le _⟩ (fun H locs hP hD hS => ?_)
  refine lv_if_eq (tgt := 13) hx hb dX4_placeOf_6 (by decide) (fun c_0 => ?_) (fun c_0 => ?_)
  · have d_0 := zb_eq c_0
    refine lv_iconst (v := 1) hx hb dX4_placeOf_13 (by decide) ?_
    refine va_put (D := (dC, dI)) (ci := 4) (v := .int 1) (ty := .int) (C := RX4) (T := TX4) (N := 17) hx hb hts hin_4 tyX4 tyX4_ok nmX4 hown hK hP hD hS 0 rfl rfl 0 (by decide) hf_45 (fun _ h9 => h9) rfl (by decide +kernel) rfl rfl (Nat.le_of_ble_eq_true rfl) dX4_placeOf_14 (fun H locs hP hD hS => ?_)
    have hP : va_P (dC, dI) vwCl (wMo b cI cZ cD 1 mh (nI N) ki pl tu le ch ca (nI M) wa la si (nI mb) bo (nI ma) al) H := hP
    have hD : va_D A (wMo b cI cZ cD 1 mh (nI N) ki pl tu le ch ca (nI M) wa la si (nI mb) bo (nI ma) al) := hD
    refine lv_aload_n hx hb dX4_placeOf_17 rfl (lv_at hl 0 rfl) ?_
    refine va_get (D := (dC, dI)) (ci := 4) (v := .int 1) (C := RX4) (T := TX4) (N := 17) hx hb hts hin_4 hown hK hP 0 rfl rfl 0 (by decide) hf_45 (fun _ h9 => h9) rfl dX4_placeOf_18 ?_
    refine lv_if_le (tgt := 28) hx hb dX4_placeOf_21 (by decide) (fun c => absurd c (by decide)) (fun _ => ?_)
    refine lv_iconst (v := 0) hx hb dX4_placeOf_24 (by decide) ?_
    refine lv_goto (tgt := 34) hx hb dX4_placeOf_25 (by decide) ?_
    exact W.iret (v := 0) hx hb hr (zq_qi rfl hP hK hD hS) hS.2.2 dX4_placeOf_34
  · have d_0 := zb_ne c_0
    exact absurd hx0 (by rw [d_0]; decide)

set_option maxHeartbeats 4000000 in
set_option maxRecDepth 100000 in
theorem c_X4_turnsOf_bad (l : Launch) (dC : Nat → ClassId) (dI : Nat → Nat → Nat) (b : Nat → Nat) (cI cZ cD : ClassId) (mt mh : Int32) (ki pl tu le : Nat → Int32) (ch ca : Nat → UInt64) (N M mb ma : Nat) (wa la si bo al : Nat → Int32) (hN : N ≤ 40) (hM : M ≤ 30) (hmb : mb ≤ 30) (hma : ma ≤ 60) (x : Int32) (hx0 : in_b x 0 (nI N - 1) = false) (sz : Nat) : zq_Mi l yX4_turnsOf wsX4_turnsOf ({ frames := 2, cells := 0, slots := 0, locals := 43 } : Room) (dC, dI) (zq_T cI cZ cD) [.ref (b 0), .int x] (wMo b cI cZ cD mt mh (nI N) ki pl tu le ch ca (nI M) wa la si (nI mb) bo (nI ma) al) 0 (wMo b cI cZ cD 1 mh (nI N) ki pl tu le ch ca (nI M) wa la si (nI mb) bo (nI ma) al) sz := by
  refine Met.ofW (cc := cX4_turnsOf) (maxL := 2) (ret := (some .int)) (by decide) rfl ?_
  intro p e s m args below meth c s₁ B hml hv
  obtain ⟨rfl, hsz, hP, hK, hD0⟩ := hv
  have hx := B.exec
  have hb := B.bytes
  have hr := B.returns
  have hts := atoms_spec (ws := wsX4_turnsOf) B.pre
  have hown : s.vm.findClass RX4 = some m.cls := findClass_of_methodNamed B.named
  have hlocks := B.notSynchronized
  subst hsz
  have hD := hD0.self (sz := s.heap.size)
  generalize hAe : va_A (wMo b cI cZ cD mt mh (nI N) ki pl tu le ch ca (nI M) wa la si (nI mb) bo (nI ma) al) s.heap.size = A at hD ⊢
  have hA : ∀ q : Nat, s.heap.size ≤ q → A q := fun q h => by rw [← hAe]; exact Or.inr h
  have hS : va_S A s.heap s.heap [] := va_S.rf
  have hP : va_P (dC, dI) vwCl (wMo b cI cZ cD mt mh (nI N) ki pl tu le ch ca (nI M) wa la si (nI mb) bo (nI ma) al) s.heap := hP
  have hl := lv_entry ([.ref (b 0), .int x]) (n := 2) (Nat.le_of_ble_eq_true rfl)
  rw [lg_entry_eq]
  generalize (lg_sl ([.ref (b 0), .int x]) ++ List.replicate (2 - (lg_sl ([.ref (b 0), .int x])).length) Slot.unset).toArray = ls at hl ⊢
  have hl : lv_has ls 2 [(0, .ref (b 0)), (1, .int x)] := hl
  have hf_45 := hts (.fieldLink RX4 45 "LampRoomModel" "thrown" "I") (by decide +kernel)
  have hin_4 : ∀ w ∈ wsX40, w ∈ wsX4_turnsOf := by decide +kernel
  refine lv_aload_n hx hb dX4_turnsOf_0 rfl (lv_at hl 0 rfl) ?_
  refine lv_aload_n hx hb dX4_turnsOf_1 rfl (lv_at hl 0 rfl) ?_
  refine lv_iload_n hx hb dX4_turnsOf_2 rfl (lv_at hl 1 rfl) ?_
  refine zq_cVi (As := [.int x]) (rest := [.ref (b 0)]) (wc := (wMo b cI cZ cD mt mh (nI N) ki pl tu le ch ca (nI M) wa la si (nI mb) bo (nI ma) al)) (w1 := (wMo b cI cZ cD mt mh (nI N) ki pl tu le ch ca (nI M) wa la si (nI mb) bo (nI ma) al)) (wr := ([] : va_W)) (ws' := (wMo b cI cZ cD mt mh (nI N) ki pl tu le ch ca (nI M) wa la si (nI mb) bo (nI ma) al)) ⟨hx, hb, hml, hown, hts⟩ (c_X4_isLamp l dC dI b cI cZ cD mt mh ki pl tu le ch ca N M mb ma wa la si bo al (by omega) (by omega) (by omega) (by omega) x s.heap.size) (cwV 1 hts gX4_turnsOf_X4_isLamp rfl rfl rfl (by decide +kernel) ⟨Nat.le_of_ble_eq_true rfl, Nat.le_of_ble_eq_true rfl⟩) hK hP hD hS hA [0, 1, 2, 3, 4, 5, 6, 7, 8, 9, 10, 11] [] [0, 1, 2, 3, 4, 5, 6, 7, 8, 9, 10, 11] rfl rfl rfl rfl (by decide) rfl rfl (ci := 4) rfl 0 rfl rfl hl.1 rfl (Nat.le_of_ble_eq_true rfl) dX4_turnsOf_3 ⟨Nat.zero_le _, Nat.zero_le _⟩ (fun H locs hP hD hS => ?_)
  refine lv_if_eq (tgt := 13) hx hb dX4_turnsOf_6 (by decide) (fun c_0 => ?_) (fun c_0 => ?_)
  · have d_0 := zb_eq c_0
    refine lv_iconst (v := 1) hx hb dX4_turnsOf_13 (by decide) ?_
    refine va_put (D := (dC, dI)) (ci := 4) (v := .int 1) (ty := .int) (C := RX4) (T := TX4) (N := 17) hx hb hts hin_4 tyX4 tyX4_ok nmX4 hown hK hP hD hS 0 rfl rfl 0 (by decide) hf_45 (fun _ h9 => h9) rfl (by decide +kernel) rfl rfl (Nat.le_of_ble_eq_true rfl) dX4_turnsOf_14 (fun H locs hP hD hS => ?_)
    have hP : va_P (dC, dI) vwCl (wMo b cI cZ cD 1 mh (nI N) ki pl tu le ch ca (nI M) wa la si (nI mb) bo (nI ma) al) H := hP
    have hD : va_D A (wMo b cI cZ cD 1 mh (nI N) ki pl tu le ch ca (nI M) wa la si (nI mb) bo (nI ma) al) := hD
    refine lv_aload_n hx hb dX4_turnsOf_17 rfl (lv_at hl 0 rfl) ?_
    refine va_get (D := (dC, dI)) (ci := 4) (v := .int 1) (C := RX4) (T := TX4) (N := 17) hx hb hts hin_4 hown hK hP 0 rfl rfl 0 (by decide) hf_45 (fun _ h9 => h9) rfl dX4_turnsOf_18 ?_
    refine lv_if_le (tgt := 28) hx hb dX4_turnsOf_21 (by decide) (fun c => absurd c (by decide)) (fun _ => ?_)
    refine lv_iconst (v := 0) hx hb dX4_turnsOf_24 (by decide) ?_
    refine lv_goto (tgt := 34) hx hb dX4_turnsOf_25 (by decide) ?_
    exact W.iret (v := 0) hx hb hr (zq_qi rfl hP hK hD hS) hS.2.2 dX4_turnsOf_34
  · have d_0 := zb_ne c_0
    exact absurd hx0 (by rw [d_0]; decide)

set_option maxHeartbeats 4000000 in
set_option maxRecDepth 100000 in
theorem c_X4_chargeOf_bad (l : Launch) (dC : Nat → ClassId) (dI : Nat → Nat → Nat) (b : Nat → Nat) (cI cZ cD : ClassId) (mt mh : Int32) (ki pl tu le : Nat → Int32) (ch ca : Nat → UInt64) (N M mb ma : Nat) (wa la si bo al : Nat → Int32) (hN : N ≤ 40) (hM : M ≤ 30) (hmb : mb ≤ 30) (hma : ma ≤ 60) (x : Int32) (hx0 : in_b x 0 (nI N - 1) = false) (sz : Nat) : zq_Md l yX4_chargeOf wsX4_chargeOf ({ frames := 2, cells := 0, slots := 0, locals := 43 } : Room) (dC, dI) (zq_T cI cZ cD) [.ref (b 0), .int x] (wMo b cI cZ cD mt mh (nI N) ki pl tu le ch ca (nI M) wa la si (nI mb) bo (nI ma) al) 0 (wMo b cI cZ cD 1 mh (nI N) ki pl tu le ch ca (nI M) wa la si (nI mb) bo (nI ma) al) sz := by
  refine Met.ofW (cc := cX4_chargeOf) (maxL := 2) (ret := (some .double)) (by decide) rfl ?_
  intro p e s m args below meth c s₁ B hml hv
  obtain ⟨rfl, hsz, hP, hK, hD0⟩ := hv
  have hx := B.exec
  have hb := B.bytes
  have hr := B.returns
  have hts := atoms_spec (ws := wsX4_chargeOf) B.pre
  have hown : s.vm.findClass RX4 = some m.cls := findClass_of_methodNamed B.named
  have hlocks := B.notSynchronized
  subst hsz
  have hD := hD0.self (sz := s.heap.size)
  generalize hAe : va_A (wMo b cI cZ cD mt mh (nI N) ki pl tu le ch ca (nI M) wa la si (nI mb) bo (nI ma) al) s.heap.size = A at hD ⊢
  have hA : ∀ q : Nat, s.heap.size ≤ q → A q := fun q h => by rw [← hAe]; exact Or.inr h
  have hS : va_S A s.heap s.heap [] := va_S.rf
  have hP : va_P (dC, dI) vwCl (wMo b cI cZ cD mt mh (nI N) ki pl tu le ch ca (nI M) wa la si (nI mb) bo (nI ma) al) s.heap := hP
  have hl := lv_entry ([.ref (b 0), .int x]) (n := 2) (Nat.le_of_ble_eq_true rfl)
  rw [lg_entry_eq]
  generalize (lg_sl ([.ref (b 0), .int x]) ++ List.replicate (2 - (lg_sl ([.ref (b 0), .int x])).length) Slot.unset).toArray = ls at hl ⊢
  have hl : lv_has ls 2 [(0, .ref (b 0)), (1, .int x)] := hl
  have hf_45 := hts (.fieldLink RX4 45 "LampRoomModel" "thrown" "I") (by decide +kernel)
  have hin_4 : ∀ w ∈ wsX40, w ∈ wsX4_chargeOf := by decide +kernel
  refine lv_aload_n hx hb dX4_chargeOf_0 rfl (lv_at hl 0 rfl) ?_
  refine lv_aload_n hx hb dX4_chargeOf_1 rfl (lv_at hl 0 rfl) ?_
  refine lv_iload_n hx hb dX4_chargeOf_2 rfl (lv_at hl 1 rfl) ?_
  refine zq_cVi (As := [.int x]) (rest := [.ref (b 0)]) (wc := (wMo b cI cZ cD mt mh (nI N) ki pl tu le ch ca (nI M) wa la si (nI mb) bo (nI ma) al)) (w1 := (wMo b cI cZ cD mt mh (nI N) ki pl tu le ch ca (nI M) wa la si (nI mb) bo (nI ma) al)) (wr := ([] : va_W)) (ws' := (wMo b cI cZ cD mt mh (nI N) ki pl tu le ch ca (nI M) wa la si (nI mb) bo (nI ma) al)) ⟨hx, hb, hml, hown, hts⟩ (c_X4_isLamp l dC dI b cI cZ cD mt mh ki pl tu le ch ca N M mb ma wa la si bo al (by omega) (by omega) (by omega) (by omega) x s.heap.size) (cwV 1 hts gX4_chargeOf_X4_isLamp rfl rfl rfl (by decide +kernel) ⟨Nat.le_of_ble_eq_true rfl, Nat.le_of_ble_eq_true rfl⟩) hK hP hD hS hA [0, 1, 2, 3, 4, 5, 6, 7, 8, 9, 10, 11] [] [0, 1, 2, 3, 4, 5, 6, 7, 8, 9, 10, 11] rfl rfl rfl rfl (by decide) rfl rfl (ci := 4) rfl 0 rfl rfl hl.1 rfl (Nat.le_of_ble_eq_true rfl) dX4_chargeOf_3 ⟨Nat.zero_le _, Nat.zero_le _⟩ (fun H locs hP hD hS => ?_)
  refine lv_if_eq (tgt := 13) hx hb dX4_chargeOf_6 (by decide) (fun c_0 => ?_) (fun c_0 => ?_)
  · have d_0 := zb_eq c_0
    refine lv_iconst (v := 1) hx hb dX4_chargeOf_13 (by decide) ?_
    refine va_put (D := (dC, dI)) (ci := 4) (v := .int 1) (ty := .int) (C := RX4) (T := TX4) (N := 17) hx hb hts hin_4 tyX4 tyX4_ok nmX4 hown hK hP hD hS 0 rfl rfl 0 (by decide) hf_45 (fun _ h9 => h9) rfl (by decide +kernel) rfl rfl (Nat.le_of_ble_eq_true rfl) dX4_chargeOf_14 (fun H locs hP hD hS => ?_)
    have hP : va_P (dC, dI) vwCl (wMo b cI cZ cD 1 mh (nI N) ki pl tu le ch ca (nI M) wa la si (nI mb) bo (nI ma) al) H := hP
    have hD : va_D A (wMo b cI cZ cD 1 mh (nI N) ki pl tu le ch ca (nI M) wa la si (nI mb) bo (nI ma) al) := hD
    refine lv_aload_n hx hb dX4_chargeOf_17 rfl (lv_at hl 0 rfl) ?_
    refine va_get (D := (dC, dI)) (ci := 4) (v := .int 1) (C := RX4) (T := TX4) (N := 17) hx hb hts hin_4 hown hK hP 0 rfl rfl 0 (by decide) hf_45 (fun _ h9 => h9) rfl dX4_chargeOf_18 ?_
    refine lv_if_le (tgt := 28) hx hb dX4_chargeOf_21 (by decide) (fun c => absurd c (by decide)) (fun _ => ?_)
    refine zq_dconst0 hx hb dX4_chargeOf_24 ?_
    refine lv_goto (tgt := 34) hx hb dX4_chargeOf_25 (by decide) ?_
    exact W.dret (v := 0) hx hb hr (zq_qd rfl hP hK hD hS) hS.2.2 dX4_chargeOf_34
  · have d_0 := zb_ne c_0
    exact absurd hx0 (by rw [d_0]; decide)

set_option maxHeartbeats 4000000 in
set_option maxRecDepth 100000 in
theorem c_X4_capacityOf_bad (l : Launch) (dC : Nat → ClassId) (dI : Nat → Nat → Nat) (b : Nat → Nat) (cI cZ cD : ClassId) (mt mh : Int32) (ki pl tu le : Nat → Int32) (ch ca : Nat → UInt64) (N M mb ma : Nat) (wa la si bo al : Nat → Int32) (hN : N ≤ 40) (hM : M ≤ 30) (hmb : mb ≤ 30) (hma : ma ≤ 60) (x : Int32) (hx0 : in_b x 0 (nI N - 1) = false) (sz : Nat) : zq_Md l yX4_capacityOf wsX4_capacityOf ({ frames := 2, cells := 0, slots := 0, locals := 43 } : Room) (dC, dI) (zq_T cI cZ cD) [.ref (b 0), .int x] (wMo b cI cZ cD mt mh (nI N) ki pl tu le ch ca (nI M) wa la si (nI mb) bo (nI ma) al) 0 (wMo b cI cZ cD 1 mh (nI N) ki pl tu le ch ca (nI M) wa la si (nI mb) bo (nI ma) al) sz := by
  refine Met.ofW (cc := cX4_capacityOf) (maxL := 2) (ret := (some .double)) (by decide) rfl ?_
  intro p e s m args below meth c s₁ B hml hv
  obtain ⟨rfl, hsz, hP, hK, hD0⟩ := hv
  have hx := B.exec
  have hb := B.bytes
  have hr := B.returns
  have hts := atoms_spec (ws := wsX4_capacityOf) B.pre
  have hown : s.vm.findClass RX4 = some m.cls := findClass_of_methodNamed B.named
  have hlocks := B.notSynchronized
  subst hsz
  have hD := hD0.self (sz := s.heap.size)
  generalize hAe : va_A (wMo b cI cZ cD mt mh (nI N) ki pl tu le ch ca (nI M) wa la si (nI mb) bo (nI ma) al) s.heap.size = A at hD ⊢
  have hA : ∀ q : Nat, s.heap.size ≤ q → A q := fun q h => by rw [← hAe]; exact Or.inr h
  have hS : va_S A s.heap s.heap [] := va_S.rf
  have hP : va_P (dC, dI) vwCl (wMo b cI cZ cD mt mh (nI N) ki pl tu le ch ca (nI M) wa la si (nI mb) bo (nI ma) al) s.heap := hP
  have hl := lv_entry ([.ref (b 0), .int x]) (n := 2) (Nat.le_of_ble_eq_true rfl)
  rw [lg_entry_eq]
  generalize (lg_sl ([.ref (b 0), .int x]) ++ List.replicate (2 - (lg_sl ([.ref (b 0), .int x])).length) Slot.unset).toArray = ls at hl ⊢
  have hl : lv_has ls 2 [(0, .ref (b 0)), (1, .int x)] := hl
  have hf_45 := hts (.fieldLink RX4 45 "LampRoomModel" "thrown" "I") (by decide +kernel)
  have hin_4 : ∀ w ∈ wsX40, w ∈ wsX4_capacityOf := by decide +kernel
  refine lv_aload_n hx hb dX4_capacityOf_0 rfl (lv_at hl 0 rfl) ?_
  refine lv_aload_n hx hb dX4_capacityOf_1 rfl (lv_at hl 0 rfl) ?_
  refine lv_iload_n hx hb dX4_capacityOf_2 rfl (lv_at hl 1 rfl) ?_
  refine zq_cVi (As := [.int x]) (rest := [.ref (b 0)]) (wc := (wMo b cI cZ cD mt mh (nI N) ki pl tu le ch ca (nI M) wa la si (nI mb) bo (nI ma) al)) (w1 := (wMo b cI cZ cD mt mh (nI N) ki pl tu le ch ca (nI M) wa la si (nI mb) bo (nI ma) al)) (wr := ([] : va_W)) (ws' := (wMo b cI cZ cD mt mh (nI N) ki pl tu le ch ca (nI M) wa la si (nI mb) bo (nI ma) al)) ⟨hx, hb, hml, hown, hts⟩ (c_X4_isLamp l dC dI b cI cZ cD mt mh ki pl tu le ch ca N M mb ma wa la si bo al (by omega) (by omega) (by omega) (by omega) x s.heap.size) (cwV 1 hts gX4_capacityOf_X4_isLamp rfl rfl rfl (by decide +kernel) ⟨Nat.le_of_ble_eq_true rfl, Nat.le_of_ble_eq_true rfl⟩) hK hP hD hS hA [0, 1, 2, 3, 4, 5, 6, 7, 8, 9, 10, 11] [] [0, 1, 2, 3, 4, 5, 6, 7, 8, 9, 10, 11] rfl rfl rfl rfl (by decide) rfl rfl (ci := 4) rfl 0 rfl rfl hl.1 rfl (Nat.le_of_ble_eq_true rfl) dX4_capacityOf_3 ⟨Nat.zero_le _, Nat.zero_le _⟩ (fun H locs hP hD hS => ?_)
  refine lv_if_eq (tgt := 13) hx hb dX4_capacityOf_6 (by decide) (fun c_0 => ?_) (fun c_0 => ?_)
  · have d_0 := zb_eq c_0
    refine lv_iconst (v := 1) hx hb dX4_capacityOf_13 (by decide) ?_
    refine va_put (D := (dC, dI)) (ci := 4) (v := .int 1) (ty := .int) (C := RX4) (T := TX4) (N := 17) hx hb hts hin_4 tyX4 tyX4_ok nmX4 hown hK hP hD hS 0 rfl rfl 0 (by decide) hf_45 (fun _ h9 => h9) rfl (by decide +kernel) rfl rfl (Nat.le_of_ble_eq_true rfl) dX4_capacityOf_14 (fun H locs hP hD hS => ?_)
    have hP : va_P (dC, dI) vwCl (wMo b cI cZ cD 1 mh (nI N) ki pl tu le ch ca (nI M) wa la si (nI mb) bo (nI ma) al) H := hP
    have hD : va_D A (wMo b cI cZ cD 1 mh (nI N) ki pl tu le ch ca (nI M) wa la si (nI mb) bo (nI ma) al) := hD
    refine lv_aload_n hx hb dX4_capacityOf_17 rfl (lv_at hl 0 rfl) ?_
    refine va_get (D := (dC, dI)) (ci := 4) (v := .int 1) (C := RX4) (T := TX4) (N := 17) hx hb hts hin_4 hown hK hP 0 rfl rfl 0 (by decide) hf_45 (fun _ h9 => h9) rfl dX4_capacityOf_18 ?_
    refine lv_if_le (tgt := 28) hx hb dX4_capacityOf_21 (by decide) (fun c => absurd c (by decide)) (fun _ => ?_)
    refine zq_dconst0 hx hb dX4_capacityOf_24 ?_
    refine lv_goto (tgt := 34) hx hb dX4_capacityOf_25 (by decide) ?_
    exact W.dret (v := 0) hx hb hr (zq_qd rfl hP hK hD hS) hS.2.2 dX4_capacityOf_34
  · have d_0 := zb_ne c_0
    exact absurd hx0 (by rw [d_0]; decide)

set_option maxHeartbeats 4000000 in
set_option maxRecDepth 100000 in
theorem c_X4_lampOf_ok (l : Launch) (dC : Nat → ClassId) (dI : Nat → Nat → Nat) (b : Nat → Nat) (cI cZ cD : ClassId) (mt mh : Int32) (ki pl tu le : Nat → Int32) (ch ca : Nat → UInt64) (N M mb ma : Nat) (wa la si bo al : Nat → Int32) (hN : N ≤ 40) (hM : M ≤ 30) (hmb : mb ≤ 30) (hma : ma ≤ 60) (mi : Nat) (hm : mi < M) (sz : Nat) : zq_Mi l yX4_lampOf wsX4_lampOf ({ frames := 2, cells := 0, slots := 0, locals := 43 } : Room) (dC, dI) (zq_T cI cZ cD) [.ref (b 0), .int (nI mi)] (wMo b cI cZ cD mt mh (nI N) ki pl tu le ch ca (nI M) wa la si (nI mb) bo (nI ma) al) (la mi) (wMo b cI cZ cD 0 mh (nI N) ki pl tu le ch ca (nI M) wa la si (nI mb) bo (nI ma) al) sz := by
  refine Met.ofW (cc := cX4_lampOf) (maxL := 2) (ret := (some .int)) (by decide) rfl ?_
  intro p e s m args below meth c s₁ B hml hv
  obtain ⟨rfl, hsz, hP, hK, hD0⟩ := hv
  have hx := B.exec
  have hb := B.bytes
  have hr := B.returns
  have hts := atoms_spec (ws := wsX4_lampOf) B.pre
  have hown : s.vm.findClass RX4 = some m.cls := findClass_of_methodNamed B.named
  have hlocks := B.notSynchronized
  subst hsz
  have hD := hD0.self (sz := s.heap.size)
  generalize hAe : va_A (wMo b cI cZ cD mt mh (nI N) ki pl tu le ch ca (nI M) wa la si (nI mb) bo (nI ma) al) s.heap.size = A at hD ⊢
  have hA : ∀ q : Nat, s.heap.size ≤ q → A q := fun q h => by rw [← hAe]; exact Or.inr h
  have hS : va_S A s.heap s.heap [] := va_S.rf
  have hP : va_P (dC, dI) vwCl (wMo b cI cZ cD mt mh (nI N) ki pl tu le ch ca (nI M) wa la si (nI mb) bo (nI ma) al) s.heap := hP
  have hl := lv_entry ([.ref (b 0), .int (nI mi)]) (n := 2) (Nat.le_of_ble_eq_true rfl)
  rw [lg_entry_eq]
  generalize (lg_sl ([.ref (b 0), .int (nI mi)]) ++ List.replicate (2 - (lg_sl ([.ref (b 0), .int (nI mi)])).length) Slot.unset).toArray = ls at hl ⊢
  have hl : lv_has ls 2 [(0, .ref (b 0)), (1, .int (nI mi))] := hl
  have hf_45 := hts (.fieldLink RX4 45 "LampRoomModel" "thrown" "I") (by decide +kernel)
  have hin_4 : ∀ w ∈ wsX40, w ∈ wsX4_lampOf := by decide +kernel
  have hf_33 := hts (.fieldLink RX4 33 "LampRoomModel" "lamp" "[I") (by decide +kernel)
  refine lv_aload_n hx hb dX4_lampOf_0 rfl (lv_at hl 0 rfl) ?_
  refine lv_aload_n hx hb dX4_lampOf_1 rfl (lv_at hl 0 rfl) ?_
  refine lv_iload_n hx hb dX4_lampOf_2 rfl (lv_at hl 1 rfl) ?_
  refine zq_cVi (As := [.int (nI mi)]) (rest := [.ref (b 0)]) (wc := (wMo b cI cZ cD mt mh (nI N) ki pl tu le ch ca (nI M) wa la si (nI mb) bo (nI ma) al)) (w1 := (wMo b cI cZ cD mt mh (nI N) ki pl tu le ch ca (nI M) wa la si (nI mb) bo (nI ma) al)) (wr := ([] : va_W)) (ws' := (wMo b cI cZ cD mt mh (nI N) ki pl tu le ch ca (nI M) wa la si (nI mb) bo (nI ma) al)) ⟨hx, hb, hml, hown, hts⟩ (c_X4_isMiner l dC dI b cI cZ cD mt mh ki pl tu le ch ca N M mb ma wa la si bo al (by omega) (by omega) (by omega) (by omega) (nI mi) s.heap.size) (cwV 1 hts gX4_lampOf_X4_isMiner rfl rfl rfl (by decide +kernel) ⟨Nat.le_of_ble_eq_true rfl, Nat.le_of_ble_eq_true rfl⟩) hK hP hD hS hA [0, 1, 2, 3, 4, 5, 6, 7, 8, 9, 10, 11] [] [0, 1, 2, 3, 4, 5, 6, 7, 8, 9, 10, 11] rfl rfl rfl rfl (by decide) rfl rfl (ci := 4) rfl 0 rfl rfl hl.1 rfl (Nat.le_of_ble_eq_true rfl) dX4_lampOf_3 ⟨Nat.zero_le _, Nat.zero_le _⟩ (fun H locs hP hD hS => ?_)
  refine lv_if_eq (tgt := 13) hx hb dX4_lampOf_6 (by decide) (fun c_0 => ?_) (fun c_0 => ?_)
  · have d_0 := zb_eq c_0
    exact absurd (in_b_ok hm (by omega)) (by rw [d_0]; decide)
  · have d_0 := zb_ne c_0
    refine lv_iconst (v := 0) hx hb dX4_lampOf_9 (by decide) ?_
    refine lv_goto (tgt := 14) hx hb dX4_lampOf_10 (by decide) ?_
    refine va_put (D := (dC, dI)) (ci := 4) (v := .int 0) (ty := .int) (C := RX4) (T := TX4) (N := 17) hx hb hts hin_4 tyX4 tyX4_ok nmX4 hown hK hP hD hS 0 rfl rfl 0 (by decide) hf_45 (fun _ h9 => h9) rfl (by decide +kernel) rfl rfl (Nat.le_of_ble_eq_true rfl) dX4_lampOf_14 (fun H locs hP hD hS => ?_)
    have hP : va_P (dC, dI) vwCl (wMo b cI cZ cD 0 mh (nI N) ki pl tu le ch ca (nI M) wa la si (nI mb) bo (nI ma) al) H := hP
    have hD : va_D A (wMo b cI cZ cD 0 mh (nI N) ki pl tu le ch ca (nI M) wa la si (nI mb) bo (nI ma) al) := hD
    refine lv_aload_n hx hb dX4_lampOf_17 rfl (lv_at hl 0 rfl) ?_
    refine va_get (D := (dC, dI)) (ci := 4) (v := .int 0) (C := RX4) (T := TX4) (N := 17) hx hb hts hin_4 hown hK hP 0 rfl rfl 0 (by decide) hf_45 (fun _ h9 => h9) rfl dX4_lampOf_18 ?_
    refine lv_if_le (tgt := 28) hx hb dX4_lampOf_21 (by decide) (fun _ => ?_) (fun c => absurd c (by decide))
    refine lv_aload_n hx hb dX4_lampOf_28 rfl (lv_at hl 0 rfl) ?_
    refine va_get (D := (dC, dI)) (ci := 4) (v := .ref (b 8)) (C := RX4) (T := TX4) (N := 17) hx hb hts hin_4 hown hK hP 0 rfl rfl 11 (by decide) hf_33 (fun _ h9 => h9) rfl dX4_lampOf_29 ?_
    refine lv_iload_n hx hb dX4_lampOf_32 rfl (lv_at hl 1 rfl) ?_
    refine zq_iald hx hb hK hP 8 0 rfl rfl (j := mi) (by omega) (by decide) dX4_lampOf_33 ?_
    exact W.iret (v := la mi) hx hb hr (zq_qi rfl hP hK hD hS) hS.2.2 dX4_lampOf_34

set_option maxHeartbeats 4000000 in
set_option maxRecDepth 100000 in
theorem c_X4_hoursBelow_ok (l : Launch) (dC : Nat → ClassId) (dI : Nat → Nat → Nat) (b : Nat → Nat) (cI cZ cD : ClassId) (mt mh : Int32) (ki pl tu le : Nat → Int32) (ch ca : Nat → UInt64) (N M mb ma : Nat) (wa la si bo al : Nat → Int32) (hN : N ≤ 40) (hM : M ≤ 30) (hmb : mb ≤ 30) (hma : ma ≤ 60) (mi : Nat) (hm : mi < M) (sz : Nat) : zq_Mi l yX4_hoursBelow wsX4_hoursBelow ({ frames := 2, cells := 0, slots := 0, locals := 43 } : Room) (dC, dI) (zq_T cI cZ cD) [.ref (b 0), .int (nI mi)] (wMo b cI cZ cD mt mh (nI N) ki pl tu le ch ca (nI M) wa la si (nI mb) bo (nI ma) al) (if la mi = -1 then -1 else mh - si mi) (wMo b cI cZ cD 0 mh (nI N) ki pl tu le ch ca (nI M) wa la si (nI mb) bo (nI ma) al) sz := by
  refine Met.ofW (cc := cX4_hoursBelow) (maxL := 2) (ret := (some .int)) (by decide) rfl ?_
  intro p e s m args below meth c s₁ B hml hv
  obtain ⟨rfl, hsz, hP, hK, hD0⟩ := hv
  have hx := B.exec
  have hb := B.bytes
  have hr := B.returns
  have hts := atoms_spec (ws := wsX4_hoursBelow) B.pre
  have hown : s.vm.findClass RX4 = some m.cls := findClass_of_methodNamed B.named
  have hlocks := B.notSynchronized
  subst hsz
  have hD := hD0.self (sz := s.heap.size)
  generalize hAe : va_A (wMo b cI cZ cD mt mh (nI N) ki pl tu le ch ca (nI M) wa la si (nI mb) bo (nI ma) al) s.heap.size = A at hD ⊢
  have hA : ∀ q : Nat, s.heap.size ≤ q → A q := fun q h => by rw [← hAe]; exact Or.inr h
  have hS : va_S A s.heap s.heap [] := va_S.rf
  have hP : va_P (dC, dI) vwCl (wMo b cI cZ cD mt mh (nI N) ki pl tu le ch ca (nI M) wa la si (nI mb) bo (nI ma) al) s.heap := hP
  have hl := lv_entry ([.ref (b 0), .int (nI mi)]) (n := 2) (Nat.le_of_ble_eq_true rfl)
  rw [lg_entry_eq]
  generalize (lg_sl ([.ref (b 0), .int (nI mi)]) ++ List.replicate (2 - (lg_sl ([.ref (b 0), .int (nI mi)])).length) Slot.unset).toArray = ls at hl ⊢
  have hl : lv_has ls 2 [(0, .ref (b 0)), (1, .int (nI mi))] := hl
  have hf_45 := hts (.fieldLink RX4 45 "LampRoomModel" "thrown" "I") (by decide +kernel)
  have hin_4 : ∀ w ∈ wsX40, w ∈ wsX4_hoursBelow := by decide +kernel
  have hf_33 := hts (.fieldLink RX4 33 "LampRoomModel" "lamp" "[I") (by decide +kernel)
  have hf_82 := hts (.fieldLink RX4 82 "LampRoomModel" "hour" "I") (by decide +kernel)
  have hf_36 := hts (.fieldLink RX4 36 "LampRoomModel" "since" "[I") (by decide +kernel)
  refine lv_aload_n hx hb dX4_hoursBelow_0 rfl (lv_at hl 0 rfl) ?_
  refine lv_aload_n hx hb dX4_hoursBelow_1 rfl (lv_at hl 0 rfl) ?_
  refine lv_iload_n hx hb dX4_hoursBelow_2 rfl (lv_at hl 1 rfl) ?_
  refine zq_cVi (As := [.int (nI mi)]) (rest := [.ref (b 0)]) (wc := (wMo b cI cZ cD mt mh (nI N) ki pl tu le ch ca (nI M) wa la si (nI mb) bo (nI ma) al)) (w1 := (wMo b cI cZ cD mt mh (nI N) ki pl tu le ch ca (nI M) wa la si (nI mb) bo (nI ma) al)) (wr := ([] : va_W)) (ws' := (wMo b cI cZ cD mt mh (nI N) ki pl tu le ch ca (nI M) wa la si (nI mb) bo (nI ma) al)) ⟨hx, hb, hml, hown, hts⟩ (c_X4_isMiner l dC dI b cI cZ cD mt mh ki pl tu le ch ca N M mb ma wa la si bo al (by omega) (by omega) (by omega) (by omega) (nI mi) s.heap.size) (cwV 1 hts gX4_hoursBelow_X4_isMiner rfl rfl rfl (by decide +kernel) ⟨Nat.le_of_ble_eq_true rfl, Nat.le_of_ble_eq_true rfl⟩) hK hP hD hS hA [0, 1, 2, 3, 4, 5, 6, 7, 8, 9, 10, 11] [] [0, 1, 2, 3, 4, 5, 6, 7, 8, 9, 10, 11] rfl rfl rfl rfl (by decide) rfl rfl (ci := 4) rfl 0 rfl rfl hl.1 rfl (Nat.le_of_ble_eq_true rfl) dX4_hoursBelow_3 ⟨Nat.zero_le _, Nat.zero_le _⟩ (fun H locs hP hD hS => ?_)
  refine lv_if_eq (tgt := 13) hx hb dX4_hoursBelow_6 (by decide) (fun c_0 => ?_) (fun c_0 => ?_)
  · have d_0 := zb_eq c_0
    exact absurd (in_b_ok hm (by omega)) (by rw [d_0]; decide)
  · have d_0 := zb_ne c_0
    refine lv_iconst (v := 0) hx hb dX4_hoursBelow_9 (by decide) ?_
    refine lv_goto (tgt := 14) hx hb dX4_hoursBelow_10 (by decide) ?_
    refine va_put (D := (dC, dI)) (ci := 4) (v := .int 0) (ty := .int) (C := RX4) (T := TX4) (N := 17) hx hb hts hin_4 tyX4 tyX4_ok nmX4 hown hK hP hD hS 0 rfl rfl 0 (by decide) hf_45 (fun _ h9 => h9) rfl (by decide +kernel) rfl rfl (Nat.le_of_ble_eq_true rfl) dX4_hoursBelow_14 (fun H locs hP hD hS => ?_)
    have hP : va_P (dC, dI) vwCl (wMo b cI cZ cD 0 mh (nI N) ki pl tu le ch ca (nI M) wa la si (nI mb) bo (nI ma) al) H := hP
    have hD : va_D A (wMo b cI cZ cD 0 mh (nI N) ki pl tu le ch ca (nI M) wa la si (nI mb) bo (nI ma) al) := hD
    refine lv_aload_n hx hb dX4_hoursBelow_17 rfl (lv_at hl 0 rfl) ?_
    refine va_get (D := (dC, dI)) (ci := 4) (v := .int 0) (C := RX4) (T := TX4) (N := 17) hx hb hts hin_4 hown hK hP 0 rfl rfl 0 (by decide) hf_45 (fun _ h9 => h9) rfl dX4_hoursBelow_18 ?_
    refine lv_if_le (tgt := 28) hx hb dX4_hoursBelow_21 (by decide) (fun _ => ?_) (fun c => absurd c (by decide))
    refine lv_aload_n hx hb dX4_hoursBelow_28 rfl (lv_at hl 0 rfl) ?_
    refine va_get (D := (dC, dI)) (ci := 4) (v := .ref (b 8)) (C := RX4) (T := TX4) (N := 17) hx hb hts hin_4 hown hK hP 0 rfl rfl 11 (by decide) hf_33 (fun _ h9 => h9) rfl dX4_hoursBelow_29 ?_
    refine lv_iload_n hx hb dX4_hoursBelow_32 rfl (lv_at hl 1 rfl) ?_
    refine zq_iald hx hb hK hP 8 0 rfl rfl (j := mi) (by omega) (by decide) dX4_hoursBelow_33 ?_
    refine lv_iconst (v := (-1)) hx hb dX4_hoursBelow_34 (by decide) ?_
    refine lv_icmp_ne (tgt := 42) hx hb dX4_hoursBelow_35 (by decide) (fun c_1 => ?_) (fun c_1 => ?_)
    · refine lv_aload_n hx hb dX4_hoursBelow_42 rfl (lv_at hl 0 rfl) ?_
      refine va_get (D := (dC, dI)) (ci := 4) (v := .int mh) (C := RX4) (T := TX4) (N := 17) hx hb hts hin_4 hown hK hP 0 rfl rfl 1 (by decide) hf_82 (fun _ h9 => h9) rfl dX4_hoursBelow_43 ?_
      refine lv_aload_n hx hb dX4_hoursBelow_46 rfl (lv_at hl 0 rfl) ?_
      refine va_get (D := (dC, dI)) (ci := 4) (v := .ref (b 9)) (C := RX4) (T := TX4) (N := 17) hx hb hts hin_4 hown hK hP 0 rfl rfl 12 (by decide) hf_36 (fun _ h9 => h9) rfl dX4_hoursBelow_47 ?_
      refine lv_iload_n hx hb dX4_hoursBelow_50 rfl (lv_at hl 1 rfl) ?_
      refine zq_iald hx hb hK hP 9 0 rfl rfl (j := mi) (by omega) (by decide) dX4_hoursBelow_51 ?_
      refine t_isub hx hb dX4_hoursBelow_52 (v := mh - (si mi)) (rfl) ?_
      exact W.iret (v := mh - (si mi)) hx hb hr (zq_qi (by first | with_reducible rfl | simp [d_0, c_1]) hP hK hD hS) hS.2.2 dX4_hoursBelow_53
    · refine lv_iconst (v := (-1)) hx hb dX4_hoursBelow_38 (by decide) ?_
      refine lv_goto (tgt := 53) hx hb dX4_hoursBelow_39 (by decide) ?_
      exact W.iret (v := (-1)) hx hb hr (zq_qi (by first | with_reducible rfl | simp [d_0, c_1]) hP hK hD hS) hS.2.2 dX4_hoursBelow_53

set_option maxHeartbeats 4000000 in
set_option maxRecDepth 100000 in
theorem c_X4_placeOf_ok (l : Launch) (dC : Nat → ClassId) (dI : Nat → Nat → Nat) (b : Nat → Nat) (cI cZ cD : ClassId) (mt mh : Int32) (ki pl tu le : Nat → Int32) (ch ca : Nat → UInt64) (N M mb ma : Nat) (wa la si bo al : Nat → Int32) (hN : N ≤ 40) (hM : M ≤ 30) (hmb : mb ≤ 30) (hma : ma ≤ 60) (j : Nat) (hj : j < N) (sz : Nat) : zq_Mi l yX4_placeOf wsX4_placeOf ({ frames := 2, cells := 0, slots := 0, locals := 43 } : Room) (dC, dI) (zq_T cI cZ cD) [.ref (b 0), .int (nI j)] (wMo b cI cZ cD mt mh (nI N) ki pl tu le ch ca (nI M) wa la si (nI mb) bo (nI ma) al) (pl j) (wMo b cI cZ cD 0 mh (nI N) ki pl tu le ch ca (nI M) wa la si (nI mb) bo (nI ma) al) sz := by
  refine Met.ofW (cc := cX4_placeOf) (maxL := 2) (ret := (some .int)) (by decide) rfl ?_
  intro p e s m args below meth c s₁ B hml hv
  obtain ⟨rfl, hsz, hP, hK, hD0⟩ := hv
  have hx := B.exec
  have hb := B.bytes
  have hr := B.returns
  have hts := atoms_spec (ws := wsX4_placeOf) B.pre
  have hown : s.vm.findClass RX4 = some m.cls := findClass_of_methodNamed B.named
  have hlocks := B.notSynchronized
  subst hsz
  have hD := hD0.self (sz := s.heap.size)
  generalize hAe : va_A (wMo b cI cZ cD mt mh (nI N) ki pl tu le ch ca (nI M) wa la si (nI mb) bo (nI ma) al) s.heap.size = A at hD ⊢
  have hA : ∀ q : Nat, s.heap.size ≤ q → A q := fun q h => by rw [← hAe]; exact Or.inr h
  have hS : va_S A s.heap s.heap [] := va_S.rf
  have hP : va_P (dC, dI) vwCl (wMo b cI cZ cD mt mh (nI N) ki pl tu le ch ca (nI M) wa la si (nI mb) bo (nI ma) al) s.heap := hP
  have hl := lv_entry ([.ref (b 0), .int (nI j)]) (n := 2) (Nat.le_of_ble_eq_true rfl)
  rw [lg_entry_eq]
  generalize (lg_sl ([.ref (b 0), .int (nI j)]) ++ List.replicate (2 - (lg_sl ([.ref (b 0), .int (nI j)])).length) Slot.unset).toArray = ls at hl ⊢
  have hl : lv_has ls 2 [(0, .ref (b 0)), (1, .int (nI j))] := hl
  have hf_45 := hts (.fieldLink RX4 45 "LampRoomModel" "thrown" "I") (by decide +kernel)
  have hin_4 : ∀ w ∈ wsX40, w ∈ wsX4_placeOf := by decide +kernel
  have hf_13 := hts (.fieldLink RX4 13 "LampRoomModel" "place" "[I") (by decide +kernel)
  refine lv_aload_n hx hb dX4_placeOf_0 rfl (lv_at hl 0 rfl) ?_
  refine lv_aload_n hx hb dX4_placeOf_1 rfl (lv_at hl 0 rfl) ?_
  refine lv_iload_n hx hb dX4_placeOf_2 rfl (lv_at hl 1 rfl) ?_
  refine zq_cVi (As := [.int (nI j)]) (rest := [.ref (b 0)]) (wc := (wMo b cI cZ cD mt mh (nI N) ki pl tu le ch ca (nI M) wa la si (nI mb) bo (nI ma) al)) (w1 := (wMo b cI cZ cD mt mh (nI N) ki pl tu le ch ca (nI M) wa la si (nI mb) bo (nI ma) al)) (wr := ([] : va_W)) (ws' := (wMo b cI cZ cD mt mh (nI N) ki pl tu le ch ca (nI M) wa la si (nI mb) bo (nI ma) al)) ⟨hx, hb, hml, hown, hts⟩ (c_X4_isLamp l dC dI b cI cZ cD mt mh ki pl tu le ch ca N M mb ma wa la si bo al (by omega) (by omega) (by omega) (by omega) (nI j) s.heap.size) (cwV 1 hts gX4_placeOf_X4_isLamp rfl rfl rfl (by decide +kernel) ⟨Nat.le_of_ble_eq_true rfl, Nat.le_of_ble_eq_true rfl⟩) hK hP hD hS hA [0, 1, 2, 3, 4, 5, 6, 7, 8, 9, 10, 11] [] [0, 1, 2, 3, 4, 5, 6, 7, 8, 9, 10, 11] rfl rfl rfl rfl (by decide) rfl rfl (ci := 4) rfl 0 rfl rfl hl.1 rfl (Nat.le_of_ble_eq_true rfl) dX4_placeOf_3 ⟨Nat.zero_le _, Nat.zero_le _⟩ (fun H locs hP hD hS => ?_)
  refine lv_if_eq (tgt := 13) hx hb dX4_placeOf_6 (by decide) (fun c_0 => ?_) (fun c_0 => ?_)
  · have d_0 := zb_eq c_0
    exact absurd (in_b_ok hj (by omega)) (by rw [d_0]; decide)
  · have d_0 := zb_ne c_0
    refine lv_iconst (v := 0) hx hb dX4_placeOf_9 (by decide) ?_
    refine lv_goto (tgt := 14) hx hb dX4_placeOf_10 (by decide) ?_
    refine va_put (D := (dC, dI)) (ci := 4) (v := .int 0) (ty := .int) (C := RX4) (T := TX4) (N := 17) hx hb hts hin_4 tyX4 tyX4_ok nmX4 hown hK hP hD hS 0 rfl rfl 0 (by decide) hf_45 (fun _ h9 => h9) rfl (by decide +kernel) rfl rfl (Nat.le_of_ble_eq_true rfl) dX4_placeOf_14 (fun H locs hP hD hS => ?_)
    have hP : va_P (dC, dI) vwCl (wMo b cI cZ cD 0 mh (nI N) ki pl tu le ch ca (nI M) wa la si (nI mb) bo (nI ma) al) H := hP
    have hD : va_D A (wMo b cI cZ cD 0 mh (nI N) ki pl tu le ch ca (nI M) wa la si (nI mb) bo (nI ma) al) := hD
    refine lv_aload_n hx hb dX4_placeOf_17 rfl (lv_at hl 0 rfl) ?_
    refine va_get (D := (dC, dI)) (ci := 4) (v := .int 0) (C := RX4) (T := TX4) (N := 17) hx hb hts hin_4 hown hK hP 0 rfl rfl 0 (by decide) hf_45 (fun _ h9 => h9) rfl dX4_placeOf_18 ?_
    refine lv_if_le (tgt := 28) hx hb dX4_placeOf_21 (by decide) (fun _ => ?_) (fun c => absurd c (by decide))
    refine lv_aload_n hx hb dX4_placeOf_28 rfl (lv_at hl 0 rfl) ?_
    refine va_get (D := (dC, dI)) (ci := 4) (v := .ref (b 2)) (C := RX4) (T := TX4) (N := 17) hx hb hts hin_4 hown hK hP 0 rfl rfl 4 (by decide) hf_13 (fun _ h9 => h9) rfl dX4_placeOf_29 ?_
    refine lv_iload_n hx hb dX4_placeOf_32 rfl (lv_at hl 1 rfl) ?_
    refine zq_iald hx hb hK hP 2 0 rfl rfl (j := j) (by omega) (by decide) dX4_placeOf_33 ?_
    exact W.iret (v := pl j) hx hb hr (zq_qi rfl hP hK hD hS) hS.2.2 dX4_placeOf_34

set_option maxHeartbeats 4000000 in
set_option maxRecDepth 100000 in
theorem c_X4_turnsOf_ok (l : Launch) (dC : Nat → ClassId) (dI : Nat → Nat → Nat) (b : Nat → Nat) (cI cZ cD : ClassId) (mt mh : Int32) (ki pl tu le : Nat → Int32) (ch ca : Nat → UInt64) (N M mb ma : Nat) (wa la si bo al : Nat → Int32) (hN : N ≤ 40) (hM : M ≤ 30) (hmb : mb ≤ 30) (hma : ma ≤ 60) (j : Nat) (hj : j < N) (sz : Nat) : zq_Mi l yX4_turnsOf wsX4_turnsOf ({ frames := 2, cells := 0, slots := 0, locals := 43 } : Room) (dC, dI) (zq_T cI cZ cD) [.ref (b 0), .int (nI j)] (wMo b cI cZ cD mt mh (nI N) ki pl tu le ch ca (nI M) wa la si (nI mb) bo (nI ma) al) (tu j) (wMo b cI cZ cD 0 mh (nI N) ki pl tu le ch ca (nI M) wa la si (nI mb) bo (nI ma) al) sz := by
  refine Met.ofW (cc := cX4_turnsOf) (maxL := 2) (ret := (some .int)) (by decide) rfl ?_
  intro p e s m args below meth c s₁ B hml hv
  obtain ⟨rfl, hsz, hP, hK, hD0⟩ := hv
  have hx := B.exec
  have hb := B.bytes
  have hr := B.returns
  have hts := atoms_spec (ws := wsX4_turnsOf) B.pre
  have hown : s.vm.findClass RX4 = some m.cls := findClass_of_methodNamed B.named
  have hlocks := B.notSynchronized
  subst hsz
  have hD := hD0.self (sz := s.heap.size)
  generalize hAe : va_A (wMo b cI cZ cD mt mh (nI N) ki pl tu le ch ca (nI M) wa la si (nI mb) bo (nI ma) al) s.heap.size = A at hD ⊢
  have hA : ∀ q : Nat, s.heap.size ≤ q → A q := fun q h => by rw [← hAe]; exact Or.inr h
  have hS : va_S A s.heap s.heap [] := va_S.rf
  have hP : va_P (dC, dI) vwCl (wMo b cI cZ cD mt mh (nI N) ki pl tu le ch ca (nI M) wa la si (nI mb) bo (nI ma) al) s.heap := hP
  have hl := lv_entry ([.ref (b 0), .int (nI j)]) (n := 2) (Nat.le_of_ble_eq_true rfl)
  rw [lg_entry_eq]
  generalize (lg_sl ([.ref (b 0), .int (nI j)]) ++ List.replicate (2 - (lg_sl ([.ref (b 0), .int (nI j)])).length) Slot.unset).toArray = ls at hl ⊢
  have hl : lv_has ls 2 [(0, .ref (b 0)), (1, .int (nI j))] := hl
  have hf_45 := hts (.fieldLink RX4 45 "LampRoomModel" "thrown" "I") (by decide +kernel)
  have hin_4 : ∀ w ∈ wsX40, w ∈ wsX4_turnsOf := by decide +kernel
  have hf_16 := hts (.fieldLink RX4 16 "LampRoomModel" "turns" "[I") (by decide +kernel)
  refine lv_aload_n hx hb dX4_turnsOf_0 rfl (lv_at hl 0 rfl) ?_
  refine lv_aload_n hx hb dX4_turnsOf_1 rfl (lv_at hl 0 rfl) ?_
  refine lv_iload_n hx hb dX4_turnsOf_2 rfl (lv_at hl 1 rfl) ?_
  refine zq_cVi (As := [.int (nI j)]) (rest := [.ref (b 0)]) (wc := (wMo b cI cZ cD mt mh (nI N) ki pl tu le ch ca (nI M) wa la si (nI mb) bo (nI ma) al)) (w1 := (wMo b cI cZ cD mt mh (nI N) ki pl tu le ch ca (nI M) wa la si (nI mb) bo (nI ma) al)) (wr := ([] : va_W)) (ws' := (wMo b cI cZ cD mt mh (nI N) ki pl tu le ch ca (nI M) wa la si (nI mb) bo (nI ma) al)) ⟨hx, hb, hml, hown, hts⟩ (c_X4_isLamp l dC dI b cI cZ cD mt mh ki pl tu le ch ca N M mb ma wa la si bo al (by omega) (by omega) (by omega) (by omega) (nI j) s.heap.size) (cwV 1 hts gX4_turnsOf_X4_isLamp rfl rfl rfl (by decide +kernel) ⟨Nat.le_of_ble_eq_true rfl, Nat.le_of_ble_eq_true rfl⟩) hK hP hD hS hA [0, 1, 2, 3, 4, 5, 6, 7, 8, 9, 10, 11] [] [0, 1, 2, 3, 4, 5, 6, 7, 8, 9, 10, 11] rfl rfl rfl rfl (by decide) rfl rfl (ci := 4) rfl 0 rfl rfl hl.1 rfl (Nat.le_of_ble_eq_true rfl) dX4_turnsOf_3 ⟨Nat.zero_le _, Nat.zero_le _⟩ (fun H locs hP hD hS => ?_)
  refine lv_if_eq (tgt := 13) hx hb dX4_turnsOf_6 (by decide) (fun c_0 => ?_) (fun c_0 => ?_)
  · have d_0 := zb_eq c_0
    exact absurd (in_b_ok hj (by omega)) (by rw [d_0]; decide)
  · have d_0 := zb_ne c_0
    refine lv_iconst (v := 0) hx hb dX4_turnsOf_9 (by decide) ?_
    refine lv_goto (tgt := 14) hx hb dX4_turnsOf_10 (by decide) ?_
    refine va_put (D := (dC, dI)) (ci := 4) (v := .int 0) (ty := .int) (C := RX4) (T := TX4) (N := 17) hx hb hts hin_4 tyX4 tyX4_ok nmX4 hown hK hP hD hS 0 rfl rfl 0 (by decide) hf_45 (fun _ h9 => h9) rfl (by decide +kernel) rfl rfl (Nat.le_of_ble_eq_true rfl) dX4_turnsOf_14 (fun H locs hP hD hS => ?_)
    have hP : va_P (dC, dI) vwCl (wMo b cI cZ cD 0 mh (nI N) ki pl tu le ch ca (nI M) wa la si (nI mb) bo (nI ma) al) H := hP
    have hD : va_D A (wMo b cI cZ cD 0 mh (nI N) ki pl tu le ch ca (nI M) wa la si (nI mb) bo (nI ma) al) := hD
    refine lv_aload_n hx hb dX4_turnsOf_17 rfl (lv_at hl 0 rfl) ?_
    refine va_get (D := (dC, dI)) (ci := 4) (v := .int 0) (C := RX4) (T := TX4) (N := 17) hx hb hts hin_4 hown hK hP 0 rfl rfl 0 (by decide) hf_45 (fun _ h9 => h9) rfl dX4_turnsOf_18 ?_
    refine lv_if_le (tgt := 28) hx hb dX4_turnsOf_21 (by decide) (fun _ => ?_) (fun c => absurd c (by decide))
    refine lv_aload_n hx hb dX4_turnsOf_28 rfl (lv_at hl 0 rfl) ?_
    refine va_get (D := (dC, dI)) (ci := 4) (v := .ref (b 3)) (C := RX4) (T := TX4) (N := 17) hx hb hts hin_4 hown hK hP 0 rfl rfl 5 (by decide) hf_16 (fun _ h9 => h9) rfl dX4_turnsOf_29 ?_
    refine lv_iload_n hx hb dX4_turnsOf_32 rfl (lv_at hl 1 rfl) ?_
    refine zq_iald hx hb hK hP 3 0 rfl rfl (j := j) (by omega) (by decide) dX4_turnsOf_33 ?_
    exact W.iret (v := tu j) hx hb hr (zq_qi rfl hP hK hD hS) hS.2.2 dX4_turnsOf_34

set_option maxHeartbeats 4000000 in
set_option maxRecDepth 100000 in
theorem c_X4_chargeOf_ok (l : Launch) (dC : Nat → ClassId) (dI : Nat → Nat → Nat) (b : Nat → Nat) (cI cZ cD : ClassId) (mt mh : Int32) (ki pl tu le : Nat → Int32) (ch ca : Nat → UInt64) (N M mb ma : Nat) (wa la si bo al : Nat → Int32) (hN : N ≤ 40) (hM : M ≤ 30) (hmb : mb ≤ 30) (hma : ma ≤ 60) (j : Nat) (hj : j < N) (sz : Nat) : zq_Md l yX4_chargeOf wsX4_chargeOf ({ frames := 2, cells := 0, slots := 0, locals := 43 } : Room) (dC, dI) (zq_T cI cZ cD) [.ref (b 0), .int (nI j)] (wMo b cI cZ cD mt mh (nI N) ki pl tu le ch ca (nI M) wa la si (nI mb) bo (nI ma) al) (ch j) (wMo b cI cZ cD 0 mh (nI N) ki pl tu le ch ca (nI M) wa la si (nI mb) bo (nI ma) al) sz := by
  refine Met.ofW (cc := cX4_chargeOf) (maxL := 2) (ret := (some .double)) (by decide) rfl ?_
  intro p e s m args below meth c s₁ B hml hv
  obtain ⟨rfl, hsz, hP, hK, hD0⟩ := hv
  have hx := B.exec
  have hb := B.bytes
  have hr := B.returns
  have hts := atoms_spec (ws := wsX4_chargeOf) B.pre
  have hown : s.vm.findClass RX4 = some m.cls := findClass_of_methodNamed B.named
  have hlocks := B.notSynchronized
  subst hsz
  have hD := hD0.self (sz := s.heap.size)
  generalize hAe : va_A (wMo b cI cZ cD mt mh (nI N) ki pl tu le ch ca (nI M) wa la si (nI mb) bo (nI ma) al) s.heap.size = A at hD ⊢
  have hA : ∀ q : Nat, s.heap.size ≤ q → A q := fun q h => by rw [← hAe]; exact Or.inr h
  have hS : va_S A s.heap s.heap [] := va_S.rf
  have hP : va_P (dC, dI) vwCl (wMo b cI cZ cD mt mh (nI N) ki pl tu le ch ca (nI M) wa la si (nI mb) bo (nI ma) al) s.heap := hP
  have hl := lv_entry ([.ref (b 0), .int (nI j)]) (n := 2) (Nat.le_of_ble_eq_true rfl)
  rw [lg_entry_eq]
  generalize (lg_sl ([.ref (b 0), .int (nI j)]) ++ List.replicate (2 - (lg_sl ([.ref (b 0), .int (nI j)])).length) Slot.unset).toArray = ls at hl ⊢
  have hl : lv_has ls 2 [(0, .ref (b 0)), (1, .int (nI j))] := hl
  have hf_45 := hts (.fieldLink RX4 45 "LampRoomModel" "thrown" "I") (by decide +kernel)
  have hin_4 : ∀ w ∈ wsX40, w ∈ wsX4_chargeOf := by decide +kernel
  have hf_23 := hts (.fieldLink RX4 23 "LampRoomModel" "charge" "[D") (by decide +kernel)
  refine lv_aload_n hx hb dX4_chargeOf_0 rfl (lv_at hl 0 rfl) ?_
  refine lv_aload_n hx hb dX4_chargeOf_1 rfl (lv_at hl 0 rfl) ?_
  refine lv_iload_n hx hb dX4_chargeOf_2 rfl (lv_at hl 1 rfl) ?_
  refine zq_cVi (As := [.int (nI j)]) (rest := [.ref (b 0)]) (wc := (wMo b cI cZ cD mt mh (nI N) ki pl tu le ch ca (nI M) wa la si (nI mb) bo (nI ma) al)) (w1 := (wMo b cI cZ cD mt mh (nI N) ki pl tu le ch ca (nI M) wa la si (nI mb) bo (nI ma) al)) (wr := ([] : va_W)) (ws' := (wMo b cI cZ cD mt mh (nI N) ki pl tu le ch ca (nI M) wa la si (nI mb) bo (nI ma) al)) ⟨hx, hb, hml, hown, hts⟩ (c_X4_isLamp l dC dI b cI cZ cD mt mh ki pl tu le ch ca N M mb ma wa la si bo al (by omega) (by omega) (by omega) (by omega) (nI j) s.heap.size) (cwV 1 hts gX4_chargeOf_X4_isLamp rfl rfl rfl (by decide +kernel) ⟨Nat.le_of_ble_eq_true rfl, Nat.le_of_ble_eq_true rfl⟩) hK hP hD hS hA [0, 1, 2, 3, 4, 5, 6, 7, 8, 9, 10, 11] [] [0, 1, 2, 3, 4, 5, 6, 7, 8, 9, 10, 11] rfl rfl rfl rfl (by decide) rfl rfl (ci := 4) rfl 0 rfl rfl hl.1 rfl (Nat.le_of_ble_eq_true rfl) dX4_chargeOf_3 ⟨Nat.zero_le _, Nat.zero_le _⟩ (fun H locs hP hD hS => ?_)
  refine lv_if_eq (tgt := 13) hx hb dX4_chargeOf_6 (by decide) (fun c_0 => ?_) (fun c_0 => ?_)
  · have d_0 := zb_eq c_0
    exact absurd (in_b_ok hj (by omega)) (by rw [d_0]; decide)
  · have d_0 := zb_ne c_0
    refine lv_iconst (v := 0) hx hb dX4_chargeOf_9 (by decide) ?_
    refine lv_goto (tgt := 14) hx hb dX4_chargeOf_10 (by decide) ?_
    refine va_put (D := (dC, dI)) (ci := 4) (v := .int 0) (ty := .int) (C := RX4) (T := TX4) (N := 17) hx hb hts hin_4 tyX4 tyX4_ok nmX4 hown hK hP hD hS 0 rfl rfl 0 (by decide) hf_45 (fun _ h9 => h9) rfl (by decide +kernel) rfl rfl (Nat.le_of_ble_eq_true rfl) dX4_chargeOf_14 (fun H locs hP hD hS => ?_)
    have hP : va_P (dC, dI) vwCl (wMo b cI cZ cD 0 mh (nI N) ki pl tu le ch ca (nI M) wa la si (nI mb) bo (nI ma) al) H := hP
    have hD : va_D A (wMo b cI cZ cD 0 mh (nI N) ki pl tu le ch ca (nI M) wa la si (nI mb) bo (nI ma) al) := hD
    refine lv_aload_n hx hb dX4_chargeOf_17 rfl (lv_at hl 0 rfl) ?_
    refine va_get (D := (dC, dI)) (ci := 4) (v := .int 0) (C := RX4) (T := TX4) (N := 17) hx hb hts hin_4 hown hK hP 0 rfl rfl 0 (by decide) hf_45 (fun _ h9 => h9) rfl dX4_chargeOf_18 ?_
    refine lv_if_le (tgt := 28) hx hb dX4_chargeOf_21 (by decide) (fun _ => ?_) (fun c => absurd c (by decide))
    refine lv_aload_n hx hb dX4_chargeOf_28 rfl (lv_at hl 0 rfl) ?_
    refine va_get (D := (dC, dI)) (ci := 4) (v := .ref (b 5)) (C := RX4) (T := TX4) (N := 17) hx hb hts hin_4 hown hK hP 0 rfl rfl 7 (by decide) hf_23 (fun _ h9 => h9) rfl dX4_chargeOf_29 ?_
    refine lv_iload_n hx hb dX4_chargeOf_32 rfl (lv_at hl 1 rfl) ?_
    refine zq_dald hx hb hK hP 5 2 rfl rfl (j := j) (by omega) (by decide) dX4_chargeOf_33 ?_
    exact W.dret (v := ch j) hx hb hr (zq_qd rfl hP hK hD hS) hS.2.2 dX4_chargeOf_34

set_option maxHeartbeats 4000000 in
set_option maxRecDepth 100000 in
theorem c_X4_capacityOf_ok (l : Launch) (dC : Nat → ClassId) (dI : Nat → Nat → Nat) (b : Nat → Nat) (cI cZ cD : ClassId) (mt mh : Int32) (ki pl tu le : Nat → Int32) (ch ca : Nat → UInt64) (N M mb ma : Nat) (wa la si bo al : Nat → Int32) (hN : N ≤ 40) (hM : M ≤ 30) (hmb : mb ≤ 30) (hma : ma ≤ 60) (j : Nat) (hj : j < N) (sz : Nat) : zq_Md l yX4_capacityOf wsX4_capacityOf ({ frames := 2, cells := 0, slots := 0, locals := 43 } : Room) (dC, dI) (zq_T cI cZ cD) [.ref (b 0), .int (nI j)] (wMo b cI cZ cD mt mh (nI N) ki pl tu le ch ca (nI M) wa la si (nI mb) bo (nI ma) al) (ca j) (wMo b cI cZ cD 0 mh (nI N) ki pl tu le ch ca (nI M) wa la si (nI mb) bo (nI ma) al) sz := by
  refine Met.ofW (cc := cX4_capacityOf) (maxL := 2) (ret := (some .double)) (by decide) rfl ?_
  intro p e s m args below meth c s₁ B hml hv
  obtain ⟨rfl, hsz, hP, hK, hD0⟩ := hv
  have hx := B.exec
  have hb := B.bytes
  have hr := B.returns
  have hts := atoms_spec (ws := wsX4_capacityOf) B.pre
  have hown : s.vm.findClass RX4 = some m.cls := findClass_of_methodNamed B.named
  have hlocks := B.notSynchronized
  subst hsz
  have hD := hD0.self (sz := s.heap.size)
  generalize hAe : va_A (wMo b cI cZ cD mt mh (nI N) ki pl tu le ch ca (nI M) wa la si (nI mb) bo (nI ma) al) s.heap.size = A at hD ⊢
  have hA : ∀ q : Nat, s.heap.size ≤ q → A q := fun q h => by rw [← hAe]; exact Or.inr h
  have hS : va_S A s.heap s.heap [] := va_S.rf
  have hP : va_P (dC, dI) vwCl (wMo b cI cZ cD mt mh (nI N) ki pl tu le ch ca (nI M) wa la si (nI mb) bo (nI ma) al) s.heap := hP
  have hl := lv_entry ([.ref (b 0), .int (nI j)]) (n := 2) (Nat.le_of_ble_eq_true rfl)
  rw [lg_entry_eq]
  generalize (lg_sl ([.ref (b 0), .int (nI j)]) ++ List.replicate (2 - (lg_sl ([.ref (b 0), .int (nI j)])).length) Slot.unset).toArray = ls at hl ⊢
  have hl : lv_has ls 2 [(0, .ref (b 0)), (1, .int (nI j))] := hl
  have hf_45 := hts (.fieldLink RX4 45 "LampRoomModel" "thrown" "I") (by decide +kernel)
  have hin_4 : ∀ w ∈ wsX40, w ∈ wsX4_capacityOf := by decide +kernel
  have hf_27 := hts (.fieldLink RX4 27 "LampRoomModel" "capacity" "[D") (by decide +kernel)
  refine lv_aload_n hx hb dX4_capacityOf_0 rfl (lv_at hl 0 rfl) ?_
  refine lv_aload_n hx hb dX4_capacityOf_1 rfl (lv_at hl 0 rfl) ?_
  refine lv_iload_n hx hb dX4_capacityOf_2 rfl (lv_at hl 1 rfl) ?_
  refine zq_cVi (As := [.int (nI j)]) (rest := [.ref (b 0)]) (wc := (wMo b cI cZ cD mt mh (nI N) ki pl tu le ch ca (nI M) wa la si (nI mb) bo (nI ma) al)) (w1 := (wMo b cI cZ cD mt mh (nI N) ki pl tu le ch ca (nI M) wa la si (nI mb) bo (nI ma) al)) (wr := ([] : va_W)) (ws' := (wMo b cI cZ cD mt mh (nI N) ki pl tu le ch ca (nI M) wa la si (nI mb) bo (nI ma) al)) ⟨hx, hb, hml, hown, hts⟩ (c_X4_isLamp l dC dI b cI cZ cD mt mh ki pl tu le ch ca N M mb ma wa la si bo al (by omega) (by omega) (by omega) (by omega) (nI j) s.heap.size) (cwV 1 hts gX4_capacityOf_X4_isLamp rfl rfl rfl (by decide +kernel) ⟨Nat.le_of_ble_eq_true rfl, Nat.le_of_ble_eq_true rfl⟩) hK hP hD hS hA [0, 1, 2, 3, 4, 5, 6, 7, 8, 9, 10, 11] [] [0, 1, 2, 3, 4, 5, 6, 7, 8, 9, 10, 11] rfl rfl rfl rfl (by decide) rfl rfl (ci := 4) rfl 0 rfl rfl hl.1 rfl (Nat.le_of_ble_eq_true rfl) dX4_capacityOf_3 ⟨Nat.zero_le _, Nat.zero_le _⟩ (fun H locs hP hD hS => ?_)
  refine lv_if_eq (tgt := 13) hx hb dX4_capacityOf_6 (by decide) (fun c_0 => ?_) (fun c_0 => ?_)
  · have d_0 := zb_eq c_0
    exact absurd (in_b_ok hj (by omega)) (by rw [d_0]; decide)
  · have d_0 := zb_ne c_0
    refine lv_iconst (v := 0) hx hb dX4_capacityOf_9 (by decide) ?_
    refine lv_goto (tgt := 14) hx hb dX4_capacityOf_10 (by decide) ?_
    refine va_put (D := (dC, dI)) (ci := 4) (v := .int 0) (ty := .int) (C := RX4) (T := TX4) (N := 17) hx hb hts hin_4 tyX4 tyX4_ok nmX4 hown hK hP hD hS 0 rfl rfl 0 (by decide) hf_45 (fun _ h9 => h9) rfl (by decide +kernel) rfl rfl (Nat.le_of_ble_eq_true rfl) dX4_capacityOf_14 (fun H locs hP hD hS => ?_)
    have hP : va_P (dC, dI) vwCl (wMo b cI cZ cD 0 mh (nI N) ki pl tu le ch ca (nI M) wa la si (nI mb) bo (nI ma) al) H := hP
    have hD : va_D A (wMo b cI cZ cD 0 mh (nI N) ki pl tu le ch ca (nI M) wa la si (nI mb) bo (nI ma) al) := hD
    refine lv_aload_n hx hb dX4_capacityOf_17 rfl (lv_at hl 0 rfl) ?_
    refine va_get (D := (dC, dI)) (ci := 4) (v := .int 0) (C := RX4) (T := TX4) (N := 17) hx hb hts hin_4 hown hK hP 0 rfl rfl 0 (by decide) hf_45 (fun _ h9 => h9) rfl dX4_capacityOf_18 ?_
    refine lv_if_le (tgt := 28) hx hb dX4_capacityOf_21 (by decide) (fun _ => ?_) (fun c => absurd c (by decide))
    refine lv_aload_n hx hb dX4_capacityOf_28 rfl (lv_at hl 0 rfl) ?_
    refine va_get (D := (dC, dI)) (ci := 4) (v := .ref (b 6)) (C := RX4) (T := TX4) (N := 17) hx hb hts hin_4 hown hK hP 0 rfl rfl 8 (by decide) hf_27 (fun _ h9 => h9) rfl dX4_capacityOf_29 ?_
    refine lv_iload_n hx hb dX4_capacityOf_32 rfl (lv_at hl 1 rfl) ?_
    refine zq_dald hx hb hK hP 6 2 rfl rfl (j := j) (by omega) (by decide) dX4_capacityOf_33 ?_
    exact W.dret (v := ca j) hx hb hr (zq_qd rfl hP hK hD hS) hS.2.2 dX4_capacityOf_34

set_option maxHeartbeats 4000000 in
set_option maxRecDepth 100000 in
theorem c_X4_lightLeft_off (l : Launch) (dC : Nat → ClassId) (dI : Nat → Nat → Nat) (b : Nat → Nat) (cI cZ cD : ClassId) (mt mh : Int32) (ki pl tu le : Nat → Int32) (ch ca : Nat → UInt64) (N M mb ma : Nat) (wa la si bo al : Nat → Int32) (hN : N ≤ 40) (hM : M ≤ 30) (hmb : mb ≤ 30) (hma : ma ≤ 60) (mi : Nat) (hm : mi < M) (hla : la mi = -1) (sz : Nat) : zq_Mi l yX4_lightLeft wsX4_lightLeft ({ frames := 2, cells := 0, slots := 0, locals := 43 } : Room) (dC, dI) (zq_T cI cZ cD) [.ref (b 0), .int (nI mi)] (wMo b cI cZ cD mt mh (nI N) ki pl tu le ch ca (nI M) wa la si (nI mb) bo (nI ma) al) (-1) (wMo b cI cZ cD 0 mh (nI N) ki pl tu le ch ca (nI M) wa la si (nI mb) bo (nI ma) al) sz := by
  refine Met.ofW (cc := cX4_lightLeft) (maxL := 2) (ret := (some .int)) (by decide) rfl ?_
  intro p e s m args below meth c s₁ B hml hv
  obtain ⟨rfl, hsz, hP, hK, hD0⟩ := hv
  have hx := B.exec
  have hb := B.bytes
  have hr := B.returns
  have hts := atoms_spec (ws := wsX4_lightLeft) B.pre
  have hown : s.vm.findClass RX4 = some m.cls := findClass_of_methodNamed B.named
  have hlocks := B.notSynchronized
  subst hsz
  have hD := hD0.self (sz := s.heap.size)
  generalize hAe : va_A (wMo b cI cZ cD mt mh (nI N) ki pl tu le ch ca (nI M) wa la si (nI mb) bo (nI ma) al) s.heap.size = A at hD ⊢
  have hA : ∀ q : Nat, s.heap.size ≤ q → A q := fun q h => by rw [← hAe]; exact Or.inr h
  have hS : va_S A s.heap s.heap [] := va_S.rf
  have hP : va_P (dC, dI) vwCl (wMo b cI cZ cD mt mh (nI N) ki pl tu le ch ca (nI M) wa la si (nI mb) bo (nI ma) al) s.heap := hP
  have hl := lv_entry ([.ref (b 0), .int (nI mi)]) (n := 2) (Nat.le_of_ble_eq_true rfl)
  rw [lg_entry_eq]
  generalize (lg_sl ([.ref (b 0), .int (nI mi)]) ++ List.replicate (2 - (lg_sl ([.ref (b 0), .int (nI mi)])).length) Slot.unset).toArray = ls at hl ⊢
  have hl : lv_has ls 2 [(0, .ref (b 0)), (1, .int (nI mi))] := hl
  have hf_45 := hts (.fieldLink RX4 45 "LampRoomModel" "thrown" "I") (by decide +kernel)
  have hin_4 : ∀ w ∈ wsX40, w ∈ wsX4_lightLeft := by decide +kernel
  have hf_33 := hts (.fieldLink RX4 33 "LampRoomModel" "lamp" "[I") (by decide +kernel)
  refine lv_aload_n hx hb dX4_lightLeft_0 rfl (lv_at hl 0 rfl) ?_
  refine lv_aload_n hx hb dX4_lightLeft_1 rfl (lv_at hl 0 rfl) ?_
  refine lv_iload_n hx hb dX4_lightLeft_2 rfl (lv_at hl 1 rfl) ?_
  refine zq_cVi (As := [.int (nI mi)]) (rest := [.ref (b 0)]) (wc := (wMo b cI cZ cD mt mh (nI N) ki pl tu le ch ca (nI M) wa la si (nI mb) bo (nI ma) al)) (w1 := (wMo b cI cZ cD mt mh (nI N) ki pl tu le ch ca (nI M) wa la si (nI mb) bo (nI ma) al)) (wr := ([] : va_W)) (ws' := (wMo b cI cZ cD mt mh (nI N) ki pl tu le ch ca (nI M) wa la si (nI mb) bo (nI ma) al)) ⟨hx, hb, hml, hown, hts⟩ (c_X4_isMiner l dC dI b cI cZ cD mt mh ki pl tu le ch ca N M mb ma wa la si bo al (by omega) (by omega) (by omega) (by omega) (nI mi) s.heap.size) (cwV 1 hts gX4_lightLeft_X4_isMiner rfl rfl rfl (by decide +kernel) ⟨Nat.le_of_ble_eq_true rfl, Nat.le_of_ble_eq_true rfl⟩) hK hP hD hS hA [0, 1, 2, 3, 4, 5, 6, 7, 8, 9, 10, 11] [] [0, 1, 2, 3, 4, 5, 6, 7, 8, 9, 10, 11] rfl rfl rfl rfl (by decide) rfl rfl (ci := 4) rfl 0 rfl rfl hl.1 rfl (Nat.le_of_ble_eq_true rfl) dX4_lightLeft_3 ⟨Nat.zero_le _, Nat.zero_le _⟩ (fun H locs hP hD hS => ?_)
  refine lv_if_eq (tgt := 13) hx hb dX4_lightLeft_6 (by decide) (fun c_0 => ?_) (fun c_0 => ?_)
  · have d_0 := zb_eq c_0
    exact absurd (in_b_ok hm (by omega)) (by rw [d_0]; decide)
  · have d_0 := zb_ne c_0
    refine lv_iconst (v := 0) hx hb dX4_lightLeft_9 (by decide) ?_
    refine lv_goto (tgt := 14) hx hb dX4_lightLeft_10 (by decide) ?_
    refine va_put (D := (dC, dI)) (ci := 4) (v := .int 0) (ty := .int) (C := RX4) (T := TX4) (N := 17) hx hb hts hin_4 tyX4 tyX4_ok nmX4 hown hK hP hD hS 0 rfl rfl 0 (by decide) hf_45 (fun _ h9 => h9) rfl (by decide +kernel) rfl rfl (Nat.le_of_ble_eq_true rfl) dX4_lightLeft_14 (fun H locs hP hD hS => ?_)
    have hP : va_P (dC, dI) vwCl (wMo b cI cZ cD 0 mh (nI N) ki pl tu le ch ca (nI M) wa la si (nI mb) bo (nI ma) al) H := hP
    have hD : va_D A (wMo b cI cZ cD 0 mh (nI N) ki pl tu le ch ca (nI M) wa la si (nI mb) bo (nI ma) al) := hD
    refine lv_aload_n hx hb dX4_lightLeft_17 rfl (lv_at hl 0 rfl) ?_
    refine va_get (D := (dC, dI)) (ci := 4) (v := .int 0) (C := RX4) (T := TX4) (N := 17) hx hb hts hin_4 hown hK hP 0 rfl rfl 0 (by decide) hf_45 (fun _ h9 => h9) rfl dX4_lightLeft_18 ?_
    refine lv_if_le (tgt := 28) hx hb dX4_lightLeft_21 (by decide) (fun _ => ?_) (fun c => absurd c (by decide))
    refine lv_aload_n hx hb dX4_lightLeft_28 rfl (lv_at hl 0 rfl) ?_
    refine va_get (D := (dC, dI)) (ci := 4) (v := .ref (b 8)) (C := RX4) (T := TX4) (N := 17) hx hb hts hin_4 hown hK hP 0 rfl rfl 11 (by decide) hf_33 (fun _ h9 => h9) rfl dX4_lightLeft_29 ?_
    refine lv_iload_n hx hb dX4_lightLeft_32 rfl (lv_at hl 1 rfl) ?_
    refine zq_iald hx hb hK hP 8 0 rfl rfl (j := mi) (by omega) (by decide) dX4_lightLeft_33 ?_
    refine lv_iconst (v := (-1)) hx hb dX4_lightLeft_34 (by decide) ?_
    refine lv_icmp_ne (tgt := 42) hx hb dX4_lightLeft_35 (by decide) (fun c_1 => ?_) (fun c_1 => ?_)
    · exact absurd hla c_1
    · refine lv_iconst (v := (-1)) hx hb dX4_lightLeft_38 (by decide) ?_
      refine lv_goto (tgt := 54) hx hb dX4_lightLeft_39 (by decide) ?_
      exact W.iret (v := (-1)) hx hb hr (zq_qi rfl hP hK hD hS) hS.2.2 dX4_lightLeft_54

set_option maxHeartbeats 4000000 in
set_option maxRecDepth 100000 in
theorem c_X4_lightLeft_ok (l : Launch) (dC : Nat → ClassId) (dI : Nat → Nat → Nat) (b : Nat → Nat) (cI cZ cD : ClassId) (mt mh : Int32) (ki pl tu le : Nat → Int32) (ch ca : Nat → UInt64) (N M mb ma : Nat) (wa la si bo al : Nat → Int32) (hN : N ≤ 40) (hM : M ≤ 30) (hmb : mb ≤ 30) (hma : ma ≤ 60) (mi : Nat) (hm : mi < M) (j : Nat) (hj : j < N) (hla : la mi = nI j) (sz : Nat) : zq_Mi l yX4_lightLeft wsX4_lightLeft ({ frames := 2, cells := 0, slots := 0, locals := 43 } : Room) (dC, dI) (zq_T cI cZ cD) [.ref (b 0), .int (nI mi)] (wMo b cI cZ cD mt mh (nI N) ki pl tu le ch ca (nI M) wa la si (nI mb) bo (nI ma) al) (FP.d2i (ch j)) (wMo b cI cZ cD 0 mh (nI N) ki pl tu le ch ca (nI M) wa la si (nI mb) bo (nI ma) al) sz := by
  refine Met.ofW (cc := cX4_lightLeft) (maxL := 2) (ret := (some .int)) (by decide) rfl ?_
  intro p e s m args below meth c s₁ B hml hv
  obtain ⟨rfl, hsz, hP, hK, hD0⟩ := hv
  have hx := B.exec
  have hb := B.bytes
  have hr := B.returns
  have hts := atoms_spec (ws := wsX4_lightLeft) B.pre
  have hown : s.vm.findClass RX4 = some m.cls := findClass_of_methodNamed B.named
  have hlocks := B.notSynchronized
  subst hsz
  have hD := hD0.self (sz := s.heap.size)
  generalize hAe : va_A (wMo b cI cZ cD mt mh (nI N) ki pl tu le ch ca (nI M) wa la si (nI mb) bo (nI ma) al) s.heap.size = A at hD ⊢
  have hA : ∀ q : Nat, s.heap.size ≤ q → A q := fun q h => by rw [← hAe]; exact Or.inr h
  have hS : va_S A s.heap s.heap [] := va_S.rf
  have hP : va_P (dC, dI) vwCl (wMo b cI cZ cD mt mh (nI N) ki pl tu le ch ca (nI M) wa la si (nI mb) bo (nI ma) al) s.heap := hP
  have hl := lv_entry ([.ref (b 0), .int (nI mi)]) (n := 2) (Nat.le_of_ble_eq_true rfl)
  rw [lg_entry_eq]
  generalize (lg_sl ([.ref (b 0), .int (nI mi)]) ++ List.replicate (2 - (lg_sl ([.ref (b 0), .int (nI mi)])).length) Slot.unset).toArray = ls at hl ⊢
  have hl : lv_has ls 2 [(0, .ref (b 0)), (1, .int (nI mi))] := hl
  have hf_45 := hts (.fieldLink RX4 45 "LampRoomModel" "thrown" "I") (by decide +kernel)
  have hin_4 : ∀ w ∈ wsX40, w ∈ wsX4_lightLeft := by decide +kernel
  have hf_33 := hts (.fieldLink RX4 33 "LampRoomModel" "lamp" "[I") (by decide +kernel)
  have hf_23 := hts (.fieldLink RX4 23 "LampRoomModel" "charge" "[D") (by decide +kernel)
  refine lv_aload_n hx hb dX4_lightLeft_0 rfl (lv_at hl 0 rfl) ?_
  refine lv_aload_n hx hb dX4_lightLeft_1 rfl (lv_at hl 0 rfl) ?_
  refine lv_iload_n hx hb dX4_lightLeft_2 rfl (lv_at hl 1 rfl) ?_
  refine zq_cVi (As := [.int (nI mi)]) (rest := [.ref (b 0)]) (wc := (wMo b cI cZ cD mt mh (nI N) ki pl tu le ch ca (nI M) wa la si (nI mb) bo (nI ma) al)) (w1 := (wMo b cI cZ cD mt mh (nI N) ki pl tu le ch ca (nI M) wa la si (nI mb) bo (nI ma) al)) (wr := ([] : va_W)) (ws' := (wMo b cI cZ cD mt mh (nI N) ki pl tu le ch ca (nI M) wa la si (nI mb) bo (nI ma) al)) ⟨hx, hb, hml, hown, hts⟩ (c_X4_isMiner l dC dI b cI cZ cD mt mh ki pl tu le ch ca N M mb ma wa la si bo al (by omega) (by omega) (by omega) (by omega) (nI mi) s.heap.size) (cwV 1 hts gX4_lightLeft_X4_isMiner rfl rfl rfl (by decide +kernel) ⟨Nat.le_of_ble_eq_true rfl, Nat.le_of_ble_eq_true rfl⟩) hK hP hD hS hA [0, 1, 2, 3, 4, 5, 6, 7, 8, 9, 10, 11] [] [0, 1, 2, 3, 4, 5, 6, 7, 8, 9, 10, 11] rfl rfl rfl rfl (by decide) rfl rfl (ci := 4) rfl 0 rfl rfl hl.1 rfl (Nat.le_of_ble_eq_true rfl) dX4_lightLeft_3 ⟨Nat.zero_le _, Nat.zero_le _⟩ (fun H locs hP hD hS => ?_)
  refine lv_if_eq (tgt := 13) hx hb dX4_lightLeft_6 (by decide) (fun c_0 => ?_) (fun c_0 => ?_)
  · have d_0 := zb_eq c_0
    exact absurd (in_b_ok hm (by omega)) (by rw [d_0]; decide)
  · have d_0 := zb_ne c_0
    refine lv_iconst (v := 0) hx hb dX4_lightLeft_9 (by decide) ?_
    refine lv_goto (tgt := 14) hx hb dX4_lightLeft_10 (by decide) ?_
    refine va_put (D := (dC, dI)) (ci := 4) (v := .int 0) (ty := .int) (C := RX4) (T := TX4) (N := 17) hx hb hts hin_4 tyX4 tyX4_ok nmX4 hown hK hP hD hS 0 rfl rfl 0 (by decide) hf_45 (fun _ h9 => h9) rfl (by decide +kernel) rfl rfl (Nat.le_of_ble_eq_true rfl) dX4_lightLeft_14 (fun H locs hP hD hS => ?_)
    have hP : va_P (dC, dI) vwCl (wMo b cI cZ cD 0 mh (nI N) ki pl tu le ch ca (nI M) wa la si (nI mb) bo (nI ma) al) H := hP
    have hD : va_D A (wMo b cI cZ cD 0 mh (nI N) ki pl tu le ch ca (nI M) wa la si (nI mb) bo (nI ma) al) := hD
    refine lv_aload_n hx hb dX4_lightLeft_17 rfl (lv_at hl 0 rfl) ?_
    refine va_get (D := (dC, dI)) (ci := 4) (v := .int 0) (C := RX4) (T := TX4) (N := 17) hx hb hts hin_4 hown hK hP 0 rfl rfl 0 (by decide) hf_45 (fun _ h9 => h9) rfl dX4_lightLeft_18 ?_
    refine lv_if_le (tgt := 28) hx hb dX4_lightLeft_21 (by decide) (fun _ => ?_) (fun c => absurd c (by decide))
    refine lv_aload_n hx hb dX4_lightLeft_28 rfl (lv_at hl 0 rfl) ?_
    refine va_get (D := (dC, dI)) (ci := 4) (v := .ref (b 8)) (C := RX4) (T := TX4) (N := 17) hx hb hts hin_4 hown hK hP 0 rfl rfl 11 (by decide) hf_33 (fun _ h9 => h9) rfl dX4_lightLeft_29 ?_
    refine lv_iload_n hx hb dX4_lightLeft_32 rfl (lv_at hl 1 rfl) ?_
    refine zq_iald hx hb hK hP 8 0 rfl rfl (j := mi) (by omega) (by decide) dX4_lightLeft_33 ?_
    refine lv_iconst (v := (-1)) hx hb dX4_lightLeft_34 (by decide) ?_
    refine lv_icmp_ne (tgt := 42) hx hb dX4_lightLeft_35 (by decide) (fun c_1 => ?_) (fun c_1 => ?_)
    · refine lv_aload_n hx hb dX4_lightLeft_42 rfl (lv_at hl 0 rfl) ?_
      refine va_get (D := (dC, dI)) (ci := 4) (v := .ref (b 5)) (C := RX4) (T := TX4) (N := 17) hx hb hts hin_4 hown hK hP 0 rfl rfl 7 (by decide) hf_23 (fun _ h9 => h9) rfl dX4_lightLeft_43 ?_
      refine lv_aload_n hx hb dX4_lightLeft_46 rfl (lv_at hl 0 rfl) ?_
      refine va_get (D := (dC, dI)) (ci := 4) (v := .ref (b 8)) (C := RX4) (T := TX4) (N := 17) hx hb hts hin_4 hown hK hP 0 rfl rfl 11 (by decide) hf_33 (fun _ h9 => h9) rfl dX4_lightLeft_47 ?_
      refine lv_iload_n hx hb dX4_lightLeft_50 rfl (lv_at hl 1 rfl) ?_
      refine zq_iald hx hb hK hP 8 0 rfl rfl (j := mi) (by omega) (by decide) dX4_lightLeft_51 ?_
      rw [hla]
      refine zq_dald hx hb hK hP 5 2 rfl rfl (j := j) (by omega) (by decide) dX4_lightLeft_52 ?_
      refine lv_d2i hx hb dX4_lightLeft_53 ?_
      exact W.iret (v := FP.d2i (ch j)) hx hb hr (zq_qi rfl hP hK hD hS) hS.2.2 dX4_lightLeft_54
    · exact absurd (hla.symm.trans c_1) (nI_nm1 (by omega))

set_option maxHeartbeats 4000000 in
set_option maxRecDepth 100000 in
theorem c_X4_ready_bad (l : Launch) (dC : Nat → ClassId) (dI : Nat → Nat → Nat) (b : Nat → Nat) (cI cZ cD : ClassId) (mt mh : Int32) (ki pl tu le : Nat → Int32) (ch ca : Nat → UInt64) (N M mb ma : Nat) (wa la si bo al : Nat → Int32) (hN : N ≤ 40) (hM : M ≤ 30) (hmb : mb ≤ 30) (hma : ma ≤ 60) (k : Int32) (hk : in_b k 0 2 = false) (sz : Nat) : zq_Mi l yX4_ready wsX4_ready ({ frames := 1, cells := 0, slots := 0, locals := 22 } : Room) (dC, dI) (zq_T cI cZ cD) [.ref (b 0), .int k] (wMo b cI cZ cD mt mh (nI N) ki pl tu le ch ca (nI M) wa la si (nI mb) bo (nI ma) al) 0 (wMo b cI cZ cD 1 mh (nI N) ki pl tu le ch ca (nI M) wa la si (nI mb) bo (nI ma) al) sz := by
  refine Met.ofW (cc := cX4_ready) (maxL := 4) (ret := (some .int)) (by decide) rfl ?_
  intro p e s m args below meth c s₁ B hml hv
  obtain ⟨rfl, hsz, hP, hK, hD0⟩ := hv
  have hx := B.exec
  have hb := B.bytes
  have hr := B.returns
  have hts := atoms_spec (ws := wsX4_ready) B.pre
  have hown : s.vm.findClass RX4 = some m.cls := findClass_of_methodNamed B.named
  have hlocks := B.notSynchronized
  subst hsz
  have hD := hD0.self (sz := s.heap.size)
  generalize hAe : va_A (wMo b cI cZ cD mt mh (nI N) ki pl tu le ch ca (nI M) wa la si (nI mb) bo (nI ma) al) s.heap.size = A at hD ⊢
  have hA : ∀ q : Nat, s.heap.size ≤ q → A q := fun q h => by rw [← hAe]; exact Or.inr h
  have hS : va_S A s.heap s.heap [] := va_S.rf
  have hP : va_P (dC, dI) vwCl (wMo b cI cZ cD mt mh (nI N) ki pl tu le ch ca (nI M) wa la si (nI mb) bo (nI ma) al) s.heap := hP
  have hl := lv_entry ([.ref (b 0), .int k]) (n := 4) (Nat.le_of_ble_eq_true rfl)
  rw [lg_entry_eq]
  generalize (lg_sl ([.ref (b 0), .int k]) ++ List.replicate (4 - (lg_sl ([.ref (b 0), .int k])).length) Slot.unset).toArray = ls at hl ⊢
  have hl : lv_has ls 4 [(0, .ref (b 0)), (1, .int k)] := hl
  have hf_45 := hts (.fieldLink RX4 45 "LampRoomModel" "thrown" "I") (by decide +kernel)
  have hin_4 : ∀ w ∈ wsX40, w ∈ wsX4_ready := by decide +kernel
  have hf_49 := hts (.fieldLink RX4 49 "LampRoomModel" "lamps" "I") (by decide +kernel)
  refine lv_aload_n hx hb dX4_ready_0 rfl (lv_at hl 0 rfl) ?_
  refine lv_iload_n hx hb dX4_ready_1 rfl (lv_at hl 1 rfl) ?_
  refine lv_iconst (v := 0) hx hb dX4_ready_2 (by decide) ?_
  refine lv_iconst (v := 2) hx hb dX4_ready_3 (by decide) ?_
  refine zq_cSi (As := [.int k, .int 0, .int 2]) (rest := [.ref (b 0)]) ⟨hx, hb, hml, hown, hts⟩ (c_X4_in l k 0 2) (va_cwS 3 hts gX4_ready_X4_in rfl rfl rfl (by decide +kernel) ⟨Nat.le_of_ble_eq_true rfl, Nat.le_of_ble_eq_true rfl⟩) hP hS rfl hl.1 rfl (Nat.le_of_ble_eq_true rfl) dX4_ready_4 ⟨Nat.zero_le _, Nat.zero_le _⟩ (fun H locs hP hS => ?_)
  refine lv_if_eq (tgt := 14) hx hb dX4_ready_7 (by decide) (fun c_0 => ?_) (fun c_0 => ?_)
  · have d_0 := zb_eq c_0
    refine lv_iconst (v := 1) hx hb dX4_ready_14 (by decide) ?_
    refine va_put (D := (dC, dI)) (ci := 4) (v := .int 1) (ty := .int) (C := RX4) (T := TX4) (N := 17) hx hb hts hin_4 tyX4 tyX4_ok nmX4 hown hK hP hD hS 0 rfl rfl 0 (by decide) hf_45 (fun _ h9 => h9) rfl (by decide +kernel) rfl rfl (Nat.le_of_ble_eq_true rfl) dX4_ready_15 (fun H locs hP hD hS => ?_)
    have hP : va_P (dC, dI) vwCl (wMo b cI cZ cD 1 mh (nI N) ki pl tu le ch ca (nI M) wa la si (nI mb) bo (nI ma) al) H := hP
    have hD : va_D A (wMo b cI cZ cD 1 mh (nI N) ki pl tu le ch ca (nI M) wa la si (nI mb) bo (nI ma) al) := hD
    refine lv_iconst (v := 0) hx hb dX4_ready_18 (by decide) ?_
    refine lv_istore_n (lv' := [(2, .int 0), (0, .ref (b 0)), (1, .int k)]) hx hb dX4_ready_19 rfl hl (by decide) rfl (fun ls hl => ?_)
    refine lv_iconst (v := 0) hx hb dX4_ready_20 (by decide) ?_
    refine lv_istore_n (lv' := [(3, .int 0), (2, .int 0), (0, .ref (b 0)), (1, .int k)]) hx hb dX4_ready_21 rfl hl (by decide) rfl (fun ls hl => ?_)
    refine lv_iload_n hx hb dX4_ready_22 rfl (lv_at hl 0 rfl) ?_
    refine lv_aload_n hx hb dX4_ready_23 rfl (lv_at hl 2 rfl) ?_
    refine va_get (D := (dC, dI)) (ci := 4) (v := .int (nI N)) (C := RX4) (T := TX4) (N := 17) hx hb hts hin_4 hown hK hP 0 rfl rfl 2 (by decide) hf_49 (fun _ h9 => h9) rfl dX4_ready_24 ?_
    refine lv_icmp_ge (tgt := 69) hx hb dX4_ready_27 (by decide) (fun c_1 => ?_) (fun c_1 => ?_)
    · have d_1 := (nI_leI (a := N) (b := 0) (by omega) (by omega)).mp c_1
      refine lv_iload_n hx hb dX4_ready_69 rfl (lv_at hl 1 rfl) ?_
      exact W.iret (v := 0) hx hb hr (zq_qi rfl hP hK hD hS) hS.2.2 dX4_ready_70
    · have d_1 := Nat.not_le.mp (fun h => c_1 ((nI_leI (a := N) (b := 0) (by omega) (by omega)).mpr h))
      refine lv_aload_n hx hb dX4_ready_30 rfl (lv_at hl 2 rfl) ?_
      refine va_get (D := (dC, dI)) (ci := 4) (v := .int 1) (C := RX4) (T := TX4) (N := 17) hx hb hts hin_4 hown hK hP 0 rfl rfl 0 (by decide) hf_45 (fun _ h9 => h9) rfl dX4_ready_31 ?_
      refine lv_if_ne (tgt := 69) hx hb dX4_ready_34 (by decide) (fun _ => ?_) (fun c => absurd c (by decide))
      refine lv_iload_n hx hb dX4_ready_69 rfl (lv_at hl 1 rfl) ?_
      exact W.iret (v := 0) hx hb hr (zq_qi rfl hP hK hD hS) hS.2.2 dX4_ready_70
  · have d_0 := zb_ne c_0
    exact absurd hk (by rw [d_0]; decide)

set_option maxHeartbeats 4000000 in
set_option maxRecDepth 100000 in
theorem c_X4_ready_ok (l : Launch) (dC : Nat → ClassId) (dI : Nat → Nat → Nat) (b : Nat → Nat) (cI cZ cD : ClassId) (mt mh : Int32) (ki pl tu le : Nat → Int32) (ch ca : Nat → UInt64) (N M mb ma : Nat) (wa la si bo al : Nat → Int32) (hN : N ≤ 40) (hM : M ≤ 30) (hmb : mb ≤ 30) (hma : ma ≤ 60) (k : Int32) (hk : in_b k 0 2 = true) (sz : Nat) : zq_Mi l yX4_ready wsX4_ready ({ frames := 1, cells := 0, slots := 0, locals := 22 } : Room) (dC, dI) (zq_T cI cZ cD) [.ref (b 0), .int k] (wMo b cI cZ cD mt mh (nI N) ki pl tu le ch ca (nI M) wa la si (nI mb) bo (nI ma) al) (nI (zf_cnt (la_is ki pl ch k) N)) (wMo b cI cZ cD 0 mh (nI N) ki pl tu le ch ca (nI M) wa la si (nI mb) bo (nI ma) al) sz := by
  refine Met.ofW (cc := cX4_ready) (maxL := 4) (ret := (some .int)) (by decide) rfl ?_
  intro p e s m args below meth c s₁ B hml hv
  obtain ⟨rfl, hsz, hP, hK, hD0⟩ := hv
  have hx := B.exec
  have hb := B.bytes
  have hr := B.returns
  have hts := atoms_spec (ws := wsX4_ready) B.pre
  have hown : s.vm.findClass RX4 = some m.cls := findClass_of_methodNamed B.named
  have hlocks := B.notSynchronized
  subst hsz
  have hD := hD0.self (sz := s.heap.size)
  generalize hAe : va_A (wMo b cI cZ cD mt mh (nI N) ki pl tu le ch ca (nI M) wa la si (nI mb) bo (nI ma) al) s.heap.size = A at hD ⊢
  have hA : ∀ q : Nat, s.heap.size ≤ q → A q := fun q h => by rw [← hAe]; exact Or.inr h
  have hS : va_S A s.heap s.heap [] := va_S.rf
  have hP : va_P (dC, dI) vwCl (wMo b cI cZ cD mt mh (nI N) ki pl tu le ch ca (nI M) wa la si (nI mb) bo (nI ma) al) s.heap := hP
  have hl := lv_entry ([.ref (b 0), .int k]) (n := 4) (Nat.le_of_ble_eq_true rfl)
  rw [lg_entry_eq]
  generalize (lg_sl ([.ref (b 0), .int k]) ++ List.replicate (4 - (lg_sl ([.ref (b 0), .int k])).length) Slot.unset).toArray = ls at hl ⊢
  have hl : lv_has ls 4 [(0, .ref (b 0)), (1, .int k)] := hl
  have hf_45 := hts (.fieldLink RX4 45 "LampRoomModel" "thrown" "I") (by decide +kernel)
  have hin_4 : ∀ w ∈ wsX40, w ∈ wsX4_ready := by decide +kernel
  have hf_49 := hts (.fieldLink RX4 49 "LampRoomModel" "lamps" "I") (by decide +kernel)
  have hf_7 := hts (.fieldLink RX4 7 "LampRoomModel" "kindOf" "[I") (by decide +kernel)
  refine lv_aload_n hx hb dX4_ready_0 rfl (lv_at hl 0 rfl) ?_
  refine lv_iload_n hx hb dX4_ready_1 rfl (lv_at hl 1 rfl) ?_
  refine lv_iconst (v := 0) hx hb dX4_ready_2 (by decide) ?_
  refine lv_iconst (v := 2) hx hb dX4_ready_3 (by decide) ?_
  refine zq_cSi (As := [.int k, .int 0, .int 2]) (rest := [.ref (b 0)]) ⟨hx, hb, hml, hown, hts⟩ (c_X4_in l k 0 2) (va_cwS 3 hts gX4_ready_X4_in rfl rfl rfl (by decide +kernel) ⟨Nat.le_of_ble_eq_true rfl, Nat.le_of_ble_eq_true rfl⟩) hP hS rfl hl.1 rfl (Nat.le_of_ble_eq_true rfl) dX4_ready_4 ⟨Nat.zero_le _, Nat.zero_le _⟩ (fun H locs hP hS => ?_)
  refine lv_if_eq (tgt := 14) hx hb dX4_ready_7 (by decide) (fun c_0 => ?_) (fun c_0 => ?_)
  · have d_0 := zb_eq c_0
    exact absurd hk (by rw [d_0]; decide)
  · have d_0 := zb_ne c_0
    refine lv_iconst (v := 0) hx hb dX4_ready_10 (by decide) ?_
    refine lv_goto (tgt := 15) hx hb dX4_ready_11 (by decide) ?_
    refine va_put (D := (dC, dI)) (ci := 4) (v := .int 0) (ty := .int) (C := RX4) (T := TX4) (N := 17) hx hb hts hin_4 tyX4 tyX4_ok nmX4 hown hK hP hD hS 0 rfl rfl 0 (by decide) hf_45 (fun _ h9 => h9) rfl (by decide +kernel) rfl rfl (Nat.le_of_ble_eq_true rfl) dX4_ready_15 (fun H locs hP hD hS => ?_)
    have hP : va_P (dC, dI) vwCl (wMo b cI cZ cD 0 mh (nI N) ki pl tu le ch ca (nI M) wa la si (nI mb) bo (nI ma) al) H := hP
    have hD : va_D A (wMo b cI cZ cD 0 mh (nI N) ki pl tu le ch ca (nI M) wa la si (nI mb) bo (nI ma) al) := hD
    refine lv_iconst (v := 0) hx hb dX4_ready_18 (by decide) ?_
    refine lv_istore_n (lv' := [(2, .int 0), (0, .ref (b 0)), (1, .int k)]) hx hb dX4_ready_19 rfl hl (by decide) rfl (fun ls hl => ?_)
    refine lv_iconst (v := 0) hx hb dX4_ready_20 (by decide) ?_
    refine lv_istore_n (lv' := [(3, .int 0), (2, .int 0), (0, .ref (b 0)), (1, .int k)]) hx hb dX4_ready_21 rfl hl (by decide) rfl (fun ls hl => ?_)
    refine zq_loop 22 N (fun i H locs ls => va_P (dC, dI) vwCl (wMo b cI cZ cD 0 mh (nI N) ki pl tu le ch ca (nI M) wa la si (nI mb) bo (nI ma) al) H ∧ va_D A (wMo b cI cZ cD 0 mh (nI N) ki pl tu le ch ca (nI M) wa la si (nI mb) bo (nI ma) al) ∧ va_S A s.heap H locs ∧ lv_has ls 4 [(2, .int (nI (zf_cnt (la_is ki pl ch k) i))), (3, .int (nI i)), (0, .ref (b 0)), (1, .int k)]) ?_ 0 (by omega) _ _ _ ⟨hP, hD, hS, lv_sub hl [1, 0, 2, 3] rfl⟩
    intro i hi_i ih_i H locs ls hh
    obtain ⟨hP, hD, hS, hl⟩ := hh
    refine lv_iload_n hx hb dX4_ready_22 rfl (lv_at hl 1 rfl) ?_
    refine lv_aload_n hx hb dX4_ready_23 rfl (lv_at hl 2 rfl) ?_
    refine va_get (D := (dC, dI)) (ci := 4) (v := .int (nI N)) (C := RX4) (T := TX4) (N := 17) hx hb hts hin_4 hown hK hP 0 rfl rfl 2 (by decide) hf_49 (fun _ h9 => h9) rfl dX4_ready_24 ?_
    refine lv_icmp_ge (tgt := 69) hx hb dX4_ready_27 (by decide) (fun c_1 => ?_) (fun c_1 => ?_)
    · have d_1 := (nI_leI (a := N) (b := i) (by omega) (by omega)).mp c_1
      have ei_i : i = N := by omega
      refine lv_iload_n hx hb dX4_ready_69 rfl (lv_at hl 0 rfl) ?_
      exact W.iret (v := nI (zf_cnt (la_is ki pl ch k) i)) hx hb hr (zq_qi (by first | with_reducible rfl | simp [d_0, d_1, ei_i]) hP hK hD hS) hS.2.2 dX4_ready_70
    · have d_1 := Nat.not_le.mp (fun h => c_1 ((nI_leI (a := N) (b := i) (by omega) (by omega)).mpr h))
      refine lv_aload_n hx hb dX4_ready_30 rfl (lv_at hl 2 rfl) ?_
      refine va_get (D := (dC, dI)) (ci := 4) (v := .int 0) (C := RX4) (T := TX4) (N := 17) hx hb hts hin_4 hown hK hP 0 rfl rfl 0 (by decide) hf_45 (fun _ h9 => h9) rfl dX4_ready_31 ?_
      refine lv_if_ne (tgt := 69) hx hb dX4_ready_34 (by decide) (fun c => absurd c (by decide)) (fun _ => ?_)
      refine lv_iload_n hx hb dX4_ready_37 rfl (lv_at hl 0 rfl) ?_
      refine lv_aload_n hx hb dX4_ready_38 rfl (lv_at hl 2 rfl) ?_
      refine va_get (D := (dC, dI)) (ci := 4) (v := .ref (b 1)) (C := RX4) (T := TX4) (N := 17) hx hb hts hin_4 hown hK hP 0 rfl rfl 3 (by decide) hf_7 (fun _ h9 => h9) rfl dX4_ready_39 ?_
      refine lv_iload_n hx hb dX4_ready_42 rfl (lv_at hl 1 rfl) ?_
      refine zq_iald hx hb hK hP 1 0 rfl rfl (j := i) (by omega) (by decide) dX4_ready_43 ?_
      refine lv_iload_n hx hb dX4_ready_44 rfl (lv_at hl 3 rfl) ?_
      refine lv_icmp_ne (tgt := 60) hx hb dX4_ready_45 (by decide) (fun c_2 => ?_) (fun c_2 => ?_)
      · refine lv_iconst (v := 0) hx hb dX4_ready_60 (by decide) ?_
        refine t_iadd hx hb dX4_ready_61 (v := nI (zf_cnt (la_is ki pl ch k) i)) (zq_add0 _) ?_
        refine lv_istore_n (lv' := [(2, .int (nI (zf_cnt (la_is ki pl ch k) i))), (3, .int (nI i)), (0, .ref (b 0)), (1, .int k)]) hx hb dX4_ready_62 rfl hl (by decide) rfl (fun ls hl => ?_)
        refine lv_iinc (v := nI (i + 1)) (lv' := [(3, .int (nI (i + 1))), (2, .int (nI (zf_cnt (la_is ki pl ch k) i))), (0, .ref (b 0)), (1, .int k)]) hx hb dX4_ready_63 hl (k := 1) rfl (nI_add _ 1) (by decide) rfl (fun ls hl => ?_)
        refine lv_goto (tgt := 22) hx hb dX4_ready_66 (by decide) ?_
        have e_3 : (nI (zf_cnt (la_is ki pl ch k) (i + 1))) = (nI (zf_cnt (la_is ki pl ch k) i)) := by rw [zf_cnt_f (by simp [la_is, d_0, d_1, c_2])]
        exact ih_i _ _ _ (by omega) ⟨(by (try rw [e_3]); exact hP), (by (try rw [e_3]); exact hD), hS, (by (try rw [e_3]); exact lv_sub hl [1, 0, 2, 3] rfl)⟩
      · refine lv_aload_n hx hb dX4_ready_48 rfl (lv_at hl 2 rfl) ?_
        refine lv_iload_n hx hb dX4_ready_49 rfl (lv_at hl 1 rfl) ?_
        refine zq_cVi (As := [.int (nI i)]) (rest := [.int (nI (zf_cnt (la_is ki pl ch k) i))]) (wc := (wMo b cI cZ cD 0 mh (nI N) ki pl tu le ch ca (nI M) wa la si (nI mb) bo (nI ma) al)) (w1 := (wMo b cI cZ cD 0 mh (nI N) ki pl tu le ch ca (nI M) wa la si (nI mb) bo (nI ma) al)) (wr := ([] : va_W)) (ws' := (wMo b cI cZ cD 0 mh (nI N) ki pl tu le ch ca (nI M) wa la si (nI mb) bo (nI ma) al)) ⟨hx, hb, hml, hown, hts⟩ (c_X4_isReady l dC dI b cI cZ cD 0 mh ki pl tu le ch ca N M mb ma wa la si bo al (by omega) (by omega) (by omega) (by omega) i (by omega) H.size) (cwV 1 hts gX4_ready_X4_isReady rfl rfl rfl (by decide +kernel) ⟨Nat.le_of_ble_eq_true rfl, Nat.le_of_ble_eq_true rfl⟩) hK hP hD hS hA [0, 1, 2, 3, 4, 5, 6, 7, 8, 9, 10, 11] [] [0, 1, 2, 3, 4, 5, 6, 7, 8, 9, 10, 11] rfl rfl rfl rfl (by decide) rfl rfl (ci := 4) rfl 0 rfl rfl hl.1 rfl (Nat.le_of_ble_eq_true rfl) dX4_ready_50 ⟨Nat.zero_le _, Nat.zero_le _⟩ (fun H locs hP hD hS => ?_)
        refine lv_if_eq (tgt := 60) hx hb dX4_ready_53 (by decide) (fun c_4 => ?_) (fun c_4 => ?_)
        · have d_4 := zb_eq c_4
          refine lv_iconst (v := 0) hx hb dX4_ready_60 (by decide) ?_
          refine t_iadd hx hb dX4_ready_61 (v := nI (zf_cnt (la_is ki pl ch k) i)) (zq_add0 _) ?_
          refine lv_istore_n (lv' := [(2, .int (nI (zf_cnt (la_is ki pl ch k) i))), (3, .int (nI i)), (0, .ref (b 0)), (1, .int k)]) hx hb dX4_ready_62 rfl hl (by decide) rfl (fun ls hl => ?_)
          refine lv_iinc (v := nI (i + 1)) (lv' := [(3, .int (nI (i + 1))), (2, .int (nI (zf_cnt (la_is ki pl ch k) i))), (0, .ref (b 0)), (1, .int k)]) hx hb dX4_ready_63 hl (k := 1) rfl (nI_add _ 1) (by decide) rfl (fun ls hl => ?_)
          refine lv_goto (tgt := 22) hx hb dX4_ready_66 (by decide) ?_
          have e_5 : (nI (zf_cnt (la_is ki pl ch k) (i + 1))) = (nI (zf_cnt (la_is ki pl ch k) i)) := by rw [zf_cnt_f (by simp [la_is, d_0, d_1, c_2, d_4])]
          exact ih_i _ _ _ (by omega) ⟨(by (try rw [e_5]); exact hP), (by (try rw [e_5]); exact hD), hS, (by (try rw [e_5]); exact lv_sub hl [1, 0, 2, 3] rfl)⟩
        · have d_4 := zb_ne c_4
          refine lv_iconst (v := 1) hx hb dX4_ready_56 (by decide) ?_
          refine lv_goto (tgt := 61) hx hb dX4_ready_57 (by decide) ?_
          refine t_iadd hx hb dX4_ready_61 (v := nI ((zf_cnt (la_is ki pl ch k) i) + 1)) (nI_1 _) ?_
          refine lv_istore_n (lv' := [(2, .int (nI ((zf_cnt (la_is ki pl ch k) i) + 1))), (3, .int (nI i)), (0, .ref (b 0)), (1, .int k)]) hx hb dX4_ready_62 rfl hl (by decide) rfl (fun ls hl => ?_)
          refine lv_iinc (v := nI (i + 1)) (lv' := [(3, .int (nI (i + 1))), (2, .int (nI ((zf_cnt (la_is ki pl ch k) i) + 1))), (0, .ref (b 0)), (1, .int k)]) hx hb dX4_ready_63 hl (k := 1) rfl (nI_add _ 1) (by decide) rfl (fun ls hl => ?_)
          refine lv_goto (tgt := 22) hx hb dX4_ready_66 (by decide) ?_
          have e_6 : (nI (zf_cnt (la_is ki pl ch k) (i + 1))) = (nI ((zf_cnt (la_is ki pl ch k) i) + 1)) := by rw [zf_cnt_t (by simp [la_is, d_0, d_1, c_2, d_4])]
          exact ih_i _ _ _ (by omega) ⟨(by (try rw [e_6]); exact hP), (by (try rw [e_6]); exact hD), hS, (by (try rw [e_6]); exact lv_sub hl [1, 0, 2, 3] rfl)⟩

set_option maxHeartbeats 4000000 in
set_option maxRecDepth 100000 in
theorem c_X4_spares (l : Launch) (dC : Nat → ClassId) (dI : Nat → Nat → Nat) (b : Nat → Nat) (cI cZ cD : ClassId) (mt mh : Int32) (ki pl tu le : Nat → Int32) (ch ca : Nat → UInt64) (N M mb ma : Nat) (wa la si bo al : Nat → Int32) (hN : N ≤ 40) (hM : M ≤ 30) (hmb : mb ≤ 30) (hma : ma ≤ 60) (hbo : ∀ i, i < mb → ∃ mi j, mi < M ∧ j < N ∧ bo i = nI mi ∧ la mi = nI j) (sz : Nat) : zq_Mi l yX4_spares wsX4_spares ({ frames := 0, cells := 0, slots := 0, locals := 0 } : Room) (dC, dI) (zq_T cI cZ cD) [.ref (b 0)] (wMo b cI cZ cD mt mh (nI N) ki pl tu le ch ca (nI M) wa la si (nI mb) bo (nI ma) al) (nI (zf_cnt (sp_b ki la wa bo) mb)) (wMo b cI cZ cD 0 mh (nI N) ki pl tu le ch ca (nI M) wa la si (nI mb) bo (nI ma) al) sz := by
  refine Met.ofW (cc := cX4_spares) (maxL := 3) (ret := (some .int)) (by decide) rfl ?_
  intro p e s m args below meth c s₁ B hml hv
  obtain ⟨rfl, hsz, hP, hK, hD0⟩ := hv
  have hx := B.exec
  have hb := B.bytes
  have hr := B.returns
  have hts := atoms_spec (ws := wsX4_spares) B.pre
  have hown : s.vm.findClass RX4 = some m.cls := findClass_of_methodNamed B.named
  have hlocks := B.notSynchronized
  subst hsz
  have hD := hD0.self (sz := s.heap.size)
  generalize hAe : va_A (wMo b cI cZ cD mt mh (nI N) ki pl tu le ch ca (nI M) wa la si (nI mb) bo (nI ma) al) s.heap.size = A at hD ⊢
  have hA : ∀ q : Nat, s.heap.size ≤ q → A q := fun q h => by rw [← hAe]; exact Or.inr h
  have hS : va_S A s.heap s.heap [] := va_S.rf
  have hP : va_P (dC, dI) vwCl (wMo b cI cZ cD mt mh (nI N) ki pl tu le ch ca (nI M) wa la si (nI mb) bo (nI ma) al) s.heap := hP
  have hl := lv_entry ([.ref (b 0)]) (n := 3) (Nat.le_of_ble_eq_true rfl)
  rw [lg_entry_eq]
  generalize (lg_sl ([.ref (b 0)]) ++ List.replicate (3 - (lg_sl ([.ref (b 0)])).length) Slot.unset).toArray = ls at hl ⊢
  have hl : lv_has ls 3 [(0, .ref (b 0))] := hl
  have hf_45 := hts (.fieldLink RX4 45 "LampRoomModel" "thrown" "I") (by decide +kernel)
  have hin_4 : ∀ w ∈ wsX40, w ∈ wsX4_spares := by decide +kernel
  have hf_85 := hts (.fieldLink RX4 85 "LampRoomModel" "below" "I") (by decide +kernel)
  have hf_7 := hts (.fieldLink RX4 7 "LampRoomModel" "kindOf" "[I") (by decide +kernel)
  have hf_33 := hts (.fieldLink RX4 33 "LampRoomModel" "lamp" "[I") (by decide +kernel)
  have hf_39 := hts (.fieldLink RX4 39 "LampRoomModel" "board" "[I") (by decide +kernel)
  have hf_30 := hts (.fieldLink RX4 30 "LampRoomModel" "wants" "[I") (by decide +kernel)
  refine lv_aload_n hx hb dX4_spares_0 rfl (lv_at hl 0 rfl) ?_
  refine lv_iconst (v := 0) hx hb dX4_spares_1 (by decide) ?_
  refine va_put (D := (dC, dI)) (ci := 4) (v := .int 0) (ty := .int) (C := RX4) (T := TX4) (N := 17) hx hb hts hin_4 tyX4 tyX4_ok nmX4 hown hK hP hD hS 0 rfl rfl 0 (by decide) hf_45 (fun _ h9 => h9) rfl (by decide +kernel) rfl rfl (Nat.le_of_ble_eq_true rfl) dX4_spares_2 (fun H locs hP hD hS => ?_)
  have hP : va_P (dC, dI) vwCl (wMo b cI cZ cD 0 mh (nI N) ki pl tu le ch ca (nI M) wa la si (nI mb) bo (nI ma) al) H := hP
  have hD : va_D A (wMo b cI cZ cD 0 mh (nI N) ki pl tu le ch ca (nI M) wa la si (nI mb) bo (nI ma) al) := hD
  refine lv_iconst (v := 0) hx hb dX4_spares_5 (by decide) ?_
  refine lv_istore_n (lv' := [(1, .int 0), (0, .ref (b 0))]) hx hb dX4_spares_6 rfl hl (by decide) rfl (fun ls hl => ?_)
  refine lv_iconst (v := 0) hx hb dX4_spares_7 (by decide) ?_
  refine lv_istore_n (lv' := [(2, .int 0), (1, .int 0), (0, .ref (b 0))]) hx hb dX4_spares_8 rfl hl (by decide) rfl (fun ls hl => ?_)
  refine zq_loop 9 mb (fun i H locs ls => va_P (dC, dI) vwCl (wMo b cI cZ cD 0 mh (nI N) ki pl tu le ch ca (nI M) wa la si (nI mb) bo (nI ma) al) H ∧ va_D A (wMo b cI cZ cD 0 mh (nI N) ki pl tu le ch ca (nI M) wa la si (nI mb) bo (nI ma) al) ∧ va_S A s.heap H locs ∧ lv_has ls 3 [(1, .int (nI (zf_cnt (sp_b ki la wa bo) i))), (2, .int (nI i)), (0, .ref (b 0))]) ?_ 0 (by omega) _ _ _ ⟨hP, hD, hS, lv_sub hl [1, 0, 2] rfl⟩
  intro i hi_i ih_i H locs ls hh
  obtain ⟨hP, hD, hS, hl⟩ := hh
  refine lv_iload_n hx hb dX4_spares_9 rfl (lv_at hl 1 rfl) ?_
  refine lv_aload_n hx hb dX4_spares_10 rfl (lv_at hl 2 rfl) ?_
  refine va_get (D := (dC, dI)) (ci := 4) (v := .int (nI mb)) (C := RX4) (T := TX4) (N := 17) hx hb hts hin_4 hown hK hP 0 rfl rfl 13 (by decide) hf_85 (fun _ h9 => h9) rfl dX4_spares_11 ?_
  refine lv_icmp_ge (tgt := 61) hx hb dX4_spares_14 (by decide) (fun c_0 => ?_) (fun c_0 => ?_)
  · have d_0 := (nI_leI (a := mb) (b := i) (by omega) (by omega)).mp c_0
    have ei_i : i = mb := by omega
    refine lv_iload_n hx hb dX4_spares_61 rfl (lv_at hl 0 rfl) ?_
    exact W.iret (v := nI (zf_cnt (sp_b ki la wa bo) i)) hx hb hr (zq_qi (by first | with_reducible rfl | simp [d_0, ei_i]) hP hK hD hS) hS.2.2 dX4_spares_62
  · have d_0 := Nat.not_le.mp (fun h => c_0 ((nI_leI (a := mb) (b := i) (by omega) (by omega)).mpr h))
    refine lv_iload_n hx hb dX4_spares_17 rfl (lv_at hl 0 rfl) ?_
    refine lv_aload_n hx hb dX4_spares_18 rfl (lv_at hl 2 rfl) ?_
    refine va_get (D := (dC, dI)) (ci := 4) (v := .ref (b 1)) (C := RX4) (T := TX4) (N := 17) hx hb hts hin_4 hown hK hP 0 rfl rfl 3 (by decide) hf_7 (fun _ h9 => h9) rfl dX4_spares_19 ?_
    refine lv_aload_n hx hb dX4_spares_22 rfl (lv_at hl 2 rfl) ?_
    refine va_get (D := (dC, dI)) (ci := 4) (v := .ref (b 8)) (C := RX4) (T := TX4) (N := 17) hx hb hts hin_4 hown hK hP 0 rfl rfl 11 (by decide) hf_33 (fun _ h9 => h9) rfl dX4_spares_23 ?_
    refine lv_aload_n hx hb dX4_spares_26 rfl (lv_at hl 2 rfl) ?_
    refine va_get (D := (dC, dI)) (ci := 4) (v := .ref (b 10)) (C := RX4) (T := TX4) (N := 17) hx hb hts hin_4 hown hK hP 0 rfl rfl 14 (by decide) hf_39 (fun _ h9 => h9) rfl dX4_spares_27 ?_
    refine lv_iload_n hx hb dX4_spares_30 rfl (lv_at hl 1 rfl) ?_
    refine zq_iald hx hb hK hP 10 0 rfl rfl (j := i) (by omega) (by decide) dX4_spares_31 ?_
    obtain ⟨mi, j, hmi, hj, eb, el⟩ := hbo i (by omega)
    have cmi : (nI mi).toNatClampNeg = mi := nI_clamp (by omega)
    have cj : (nI j).toNatClampNeg = j := nI_clamp (by omega)
    rw [eb]
    refine zq_iald hx hb hK hP 8 0 rfl rfl (j := mi) (by omega) (by decide) dX4_spares_32 ?_
    rw [el]
    refine zq_iald hx hb hK hP 1 0 rfl rfl (j := j) (by omega) (by decide) dX4_spares_33 ?_
    refine lv_aload_n hx hb dX4_spares_34 rfl (lv_at hl 2 rfl) ?_
    refine va_get (D := (dC, dI)) (ci := 4) (v := .ref (b 7)) (C := RX4) (T := TX4) (N := 17) hx hb hts hin_4 hown hK hP 0 rfl rfl 10 (by decide) hf_30 (fun _ h9 => h9) rfl dX4_spares_35 ?_
    refine lv_aload_n hx hb dX4_spares_38 rfl (lv_at hl 2 rfl) ?_
    refine va_get (D := (dC, dI)) (ci := 4) (v := .ref (b 10)) (C := RX4) (T := TX4) (N := 17) hx hb hts hin_4 hown hK hP 0 rfl rfl 14 (by decide) hf_39 (fun _ h9 => h9) rfl dX4_spares_39 ?_
    refine lv_iload_n hx hb dX4_spares_42 rfl (lv_at hl 1 rfl) ?_
    refine zq_iald hx hb hK hP 10 0 rfl rfl (j := i) (by omega) (by decide) dX4_spares_43 ?_
    rw [eb]
    refine zq_iald hx hb hK hP 7 0 rfl rfl (j := mi) (by omega) (by decide) dX4_spares_44 ?_
    refine lv_icmp_le (tgt := 52) hx hb dX4_spares_45 (by decide) (fun c_1 => ?_) (fun c_1 => ?_)
    · refine lv_iconst (v := 0) hx hb dX4_spares_52 (by decide) ?_
      refine t_iadd hx hb dX4_spares_53 (v := nI (zf_cnt (sp_b ki la wa bo) i)) (zq_add0 _) ?_
      refine lv_istore_n (lv' := [(1, .int (nI (zf_cnt (sp_b ki la wa bo) i))), (2, .int (nI i)), (0, .ref (b 0))]) hx hb dX4_spares_54 rfl hl (by decide) rfl (fun ls hl => ?_)
      refine lv_iinc (v := nI (i + 1)) (lv' := [(2, .int (nI (i + 1))), (1, .int (nI (zf_cnt (sp_b ki la wa bo) i))), (0, .ref (b 0))]) hx hb dX4_spares_55 hl (k := 1) rfl (nI_add _ 1) (by decide) rfl (fun ls hl => ?_)
      refine lv_goto (tgt := 9) hx hb dX4_spares_58 (by decide) ?_
      have e_2 : (nI (zf_cnt (sp_b ki la wa bo) (i + 1))) = (nI (zf_cnt (sp_b ki la wa bo) i)) := by rw [zf_cnt_f (by simp [sp_b, d_0, eb, el, cmi, cj, c_1])]
      exact ih_i _ _ _ (by omega) ⟨(by (try rw [e_2]); exact hP), (by (try rw [e_2]); exact hD), hS, (by (try rw [e_2]); exact lv_sub hl [1, 0, 2] rfl)⟩
    · refine lv_iconst (v := 1) hx hb dX4_spares_48 (by decide) ?_
      refine lv_goto (tgt := 53) hx hb dX4_spares_49 (by decide) ?_
      refine t_iadd hx hb dX4_spares_53 (v := nI ((zf_cnt (sp_b ki la wa bo) i) + 1)) (nI_1 _) ?_
      refine lv_istore_n (lv' := [(1, .int (nI ((zf_cnt (sp_b ki la wa bo) i) + 1))), (2, .int (nI i)), (0, .ref (b 0))]) hx hb dX4_spares_54 rfl hl (by decide) rfl (fun ls hl => ?_)
      refine lv_iinc (v := nI (i + 1)) (lv' := [(2, .int (nI (i + 1))), (1, .int (nI ((zf_cnt (sp_b ki la wa bo) i) + 1))), (0, .ref (b 0))]) hx hb dX4_spares_55 hl (k := 1) rfl (nI_add _ 1) (by decide) rfl (fun ls hl => ?_)
      refine lv_goto (tgt := 9) hx hb dX4_spares_58 (by decide) ?_
      have e_3 : (nI (zf_cnt (sp_b ki la wa bo) (i + 1))) = (nI ((zf_cnt (sp_b ki la wa bo) i) + 1)) := by rw [zf_cnt_t (by simp [sp_b, d_0, eb, el, cmi, cj, c_1, Int32.not_le.mp c_1])]
      exact ih_i _ _ _ (by omega) ⟨(by (try rw [e_3]); exact hP), (by (try rw [e_3]); exact hD), hS, (by (try rw [e_3]); exact lv_sub hl [1, 0, 2] rfl)⟩
