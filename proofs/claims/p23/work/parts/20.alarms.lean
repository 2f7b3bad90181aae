set_option maxHeartbeats 4000000 in
set_option maxRecDepth 100000 in
theorem c_X0_isAhead (l : Launch) (dC : Nat → ClassId) (dI : Nat → Nat → Nat) (a : Nat → Nat) (cI cZ cD : ClassId) (be : Nat → Int32) (o k : Nat) (ho : o < 60) (hk : k < 60) (sz : Nat) : zq_Mi l yX0_isAhead wsX0_isAhead ({ frames := 0, cells := 0, slots := 0, locals := 0 } : Room) (dC, dI) (zq_T cI cZ cD) [.ref (a 13), .int (nI o), .int (nI k)] (wAl a cI be) (zb (al_ah be o k)) (wAl a cI be) sz := by
  refine Met.ofW (cc := cX0_isAhead) (maxL := 3) (ret := (some .boolean)) (by decide) rfl ?_
  intro p e s m args below meth c s₁ B hml hv
  obtain ⟨rfl, hsz, hP, hK, hD0⟩ := hv
  have hx := B.exec
  have hb := B.bytes
  have hr := B.returns
  have hts := atoms_spec (ws := wsX0_isAhead) B.pre
  have hown : s.vm.findClass RX0 = some m.cls := findClass_of_methodNamed B.named
  have hlocks := B.notSynchronized
  subst hsz
  have hD := hD0.self (sz := s.heap.size)
  generalize hAe : va_A (wAl a cI be) s.heap.size = A at hD ⊢
  have hA : ∀ q : Nat, s.heap.size ≤ q → A q := fun q h => by rw [← hAe]; exact Or.inr h
  have hS : va_S A s.heap s.heap [] := va_S.rf
  have hP : va_P (dC, dI) vwCl (wAl a cI be) s.heap := hP
  have hl := lv_entry ([.ref (a 13), .int (nI o), .int (nI k)]) (n := 3) (Nat.le_of_ble_eq_true rfl)
  rw [lg_entry_eq]
  generalize (lg_sl ([.ref (a 13), .int (nI o), .int (nI k)]) ++ List.replicate (3 - (lg_sl ([.ref (a 13), .int (nI o), .int (nI k)])).length) Slot.unset).toArray = ls at hl ⊢
  have hl : lv_has ls 3 [(0, .ref (a 13)), (1, .int (nI o)), (2, .int (nI k))] := hl
  have hf_9 := hts (.fieldLink RX0 9 "LampRoom$Alarms" "began" "[I") (by decide +kernel)
  have hin_0 : ∀ w ∈ wsX00, w ∈ wsX0_isAhead := by decide +kernel
  refine lv_aload_n hx hb dX0_isAhead_0 rfl (lv_at hl 0 rfl) ?_
  refine va_get (D := (dC, dI)) (ci := 0) (v := .ref (a 14)) (C := RX0) (T := TX0) (N := 1) hx hb hts hin_0 hown hK hP 0 rfl rfl 0 (by decide) hf_9 (fun _ h9 => h9) rfl dX0_isAhead_1 ?_
  refine lv_iload_n hx hb dX0_isAhead_4 rfl (lv_at hl 1 rfl) ?_
  refine zq_iald hx hb hK hP 1 0 rfl rfl (j := o) (by omega) (by decide) dX0_isAhead_5 ?_
  refine lv_aload_n hx hb dX0_isAhead_6 rfl (lv_at hl 0 rfl) ?_
  refine va_get (D := (dC, dI)) (ci := 0) (v := .ref (a 14)) (C := RX0) (T := TX0) (N := 1) hx hb hts hin_0 hown hK hP 0 rfl rfl 0 (by decide) hf_9 (fun _ h9 => h9) rfl dX0_isAhead_7 ?_
  refine lv_iload_n hx hb dX0_isAhead_10 rfl (lv_at hl 2 rfl) ?_
  refine zq_iald hx hb hK hP 1 0 rfl rfl (j := k) (by omega) (by decide) dX0_isAhead_11 ?_
  refine lv_icmp_lt (tgt := 35) hx hb dX0_isAhead_12 (by decide) (fun c_0 => ?_) (fun c_0 => ?_)
  · refine lv_iconst (v := 1) hx hb dX0_isAhead_35 (by decide) ?_
    refine lv_goto (tgt := 40) hx hb dX0_isAhead_36 (by decide) ?_
    exact W.zret (v := 1) hx hb hr (by rfl) (zq_qi (by first | with_reducible rfl | simp [zb, al_ah, c_0]) hP hK hD hS) hS.2.2 dX0_isAhead_40
  · refine lv_aload_n hx hb dX0_isAhead_15 rfl (lv_at hl 0 rfl) ?_
    refine va_get (D := (dC, dI)) (ci := 0) (v := .ref (a 14)) (C := RX0) (T := TX0) (N := 1) hx hb hts hin_0 hown hK hP 0 rfl rfl 0 (by decide) hf_9 (fun _ h9 => h9) rfl dX0_isAhead_16 ?_
    refine lv_iload_n hx hb dX0_isAhead_19 rfl (lv_at hl 1 rfl) ?_
    refine zq_iald hx hb hK hP 1 0 rfl rfl (j := o) (by omega) (by decide) dX0_isAhead_20 ?_
    refine lv_aload_n hx hb dX0_isAhead_21 rfl (lv_at hl 0 rfl) ?_
    refine va_get (D := (dC, dI)) (ci := 0) (v := .ref (a 14)) (C := RX0) (T := TX0) (N := 1) hx hb hts hin_0 hown hK hP 0 rfl rfl 0 (by decide) hf_9 (fun _ h9 => h9) rfl dX0_isAhead_22 ?_
    refine lv_iload_n hx hb dX0_isAhead_25 rfl (lv_at hl 2 rfl) ?_
    refine zq_iald hx hb hK hP 1 0 rfl rfl (j := k) (by omega) (by decide) dX0_isAhead_26 ?_
    refine lv_icmp_ne (tgt := 39) hx hb dX0_isAhead_27 (by decide) (fun c_1 => ?_) (fun c_1 => ?_)
    · refine lv_iconst (v := 0) hx hb dX0_isAhead_39 (by decide) ?_
      exact W.zret (v := 0) hx hb hr (by rfl) (zq_qi (by first | with_reducible rfl | simp [zb, al_ah, c_0, c_1]) hP hK hD hS) hS.2.2 dX0_isAhead_40
    · refine lv_iload_n hx hb dX0_isAhead_30 rfl (lv_at hl 1 rfl) ?_
      refine lv_iload_n hx hb dX0_isAhead_31 rfl (lv_at hl 2 rfl) ?_
      refine lv_icmp_ge (tgt := 39) hx hb dX0_isAhead_32 (by decide) (fun c_2 => ?_) (fun c_2 => ?_)
      · have d_2 := (nI_leI (a := k) (b := o) (by omega) (by omega)).mp c_2
        refine lv_iconst (v := 0) hx hb dX0_isAhead_39 (by decide) ?_
        exact W.zret (v := 0) hx hb hr (by rfl) (zq_qi (by first | with_reducible rfl | simp [zb, al_ah, c_0, c_1, d_2]) hP hK hD hS) hS.2.2 dX0_isAhead_40
      · have d_2 := Nat.not_le.mp (fun h => c_2 ((nI_leI (a := k) (b := o) (by omega) (by omega)).mpr h))
        refine lv_iconst (v := 1) hx hb dX0_isAhead_35 (by decide) ?_
        refine lv_goto (tgt := 40) hx hb dX0_isAhead_36 (by decide) ?_
        exact W.zret (v := 1) hx hb hr (by rfl) (zq_qi (by first | with_reducible rfl | simp [zb, al_ah, c_0, c_1, d_2]) hP hK hD hS) hS.2.2 dX0_isAhead_40

set_option maxHeartbeats 4000000 in
set_option maxRecDepth 100000 in
theorem c_X0_countAhead (l : Launch) (dC : Nat → ClassId) (dI : Nat → Nat → Nat) (a : Nat → Nat) (cI cZ cD : ClassId) (be : Nat → Int32) (k : Nat) (hk : k < 60) (sz : Nat) : zq_Mi l yX0_countAhead wsX0_countAhead ({ frames := 1, cells := 0, slots := 0, locals := 22 } : Room) (dC, dI) (zq_T cI cZ cD) [.ref (a 13), .int (nI k)] (wAl a cI be) (nI (zf_cnt (al_p be k) 60)) (wAl a cI be) sz := by
  refine Met.ofW (cc := cX0_countAhead) (maxL := 4) (ret := (some .int)) (by decide) rfl ?_
  intro p e s m args below meth c s₁ B hml hv
  obtain ⟨rfl, hsz, hP, hK, hD0⟩ := hv
  have hx := B.exec
  have hb := B.bytes
  have hr := B.returns
  have hts := atoms_spec (ws := wsX0_countAhead) B.pre
  have hown : s.vm.findClass RX0 = some m.cls := findClass_of_methodNamed B.named
  have hlocks := B.notSynchronized
  subst hsz
  have hD := hD0.self (sz := s.heap.size)
  generalize hAe : va_A (wAl a cI be) s.heap.size = A at hD ⊢
  have hA : ∀ q : Nat, s.heap.size ≤ q → A q := fun q h => by rw [← hAe]; exact Or.inr h
  have hS : va_S A s.heap s.heap [] := va_S.rf
  have hP : va_P (dC, dI) vwCl (wAl a cI be) s.heap := hP
  have hl := lv_entry ([.ref (a 13), .int (nI k)]) (n := 4) (Nat.le_of_ble_eq_true rfl)
  rw [lg_entry_eq]
  generalize (lg_sl ([.ref (a 13), .int (nI k)]) ++ List.replicate (4 - (lg_sl ([.ref (a 13), .int (nI k)])).length) Slot.unset).toArray = ls at hl ⊢
  have hl : lv_has ls 4 [(0, .ref (a 13)), (1, .int (nI k))] := hl
  have hf_9 := hts (.fieldLink RX0 9 "LampRoom$Alarms" "began" "[I") (by decide +kernel)
  have hin_0 : ∀ w ∈ wsX00, w ∈ wsX0_countAhead := by decide +kernel
  refine lv_iconst (v := 0) hx hb dX0_countAhead_0 (by decide) ?_
  refine lv_istore_n (lv' := [(2, .int 0), (0, .ref (a 13)), (1, .int (nI k))]) hx hb dX0_countAhead_1 rfl hl (by decide) rfl (fun ls hl => ?_)
  refine lv_iconst (v := 0) hx hb dX0_countAhead_2 (by decide) ?_
  refine lv_istore_n (lv' := [(3, .int 0), (2, .int 0), (0, .ref (a 13)), (1, .int (nI k))]) hx hb dX0_countAhead_3 rfl hl (by decide) rfl (fun ls hl => ?_)
  refine zq_loop 4 60 (fun i H locs ls => va_P (dC, dI) vwCl (wAl a cI be) H ∧ va_D A (wAl a cI be) ∧ va_S A s.heap H locs ∧ lv_has ls 4 [(2, .int (nI (zf_cnt (al_p be k) i))), (3, .int (nI i)), (0, .ref (a 13)), (1, .int (nI k))]) ?_ 0 (by omega) _ _ _ ⟨hP, hD, hS, lv_sub hl [1, 0, 2, 3] rfl⟩
  intro i hi_i ih_i H locs ls hh
  obtain ⟨hP, hD, hS, hl⟩ := hh
  refine lv_iload_n hx hb dX0_countAhead_4 rfl (lv_at hl 1 rfl) ?_
  refine lv_aload_n hx hb dX0_countAhead_5 rfl (lv_at hl 2 rfl) ?_
  refine va_get (D := (dC, dI)) (ci := 0) (v := .ref (a 14)) (C := RX0) (T := TX0) (N := 1) hx hb hts hin_0 hown hK hP 0 rfl rfl 0 (by decide) hf_9 (fun _ h9 => h9) rfl dX0_countAhead_6 ?_
  refine va_alen hx hb hK hP 1 0 rfl rfl (v := nI 60) rfl dX0_countAhead_9 ?_
  refine lv_icmp_ge (tgt := 40) hx hb dX0_countAhead_10 (by decide) (fun c_0 => ?_) (fun c_0 => ?_)
  · have d_0 := (nI_leI (a := 60) (b := i) (by omega) (by omega)).mp c_0
    have ei_i : i = 60 := by omega
    refine lv_iload_n hx hb dX0_countAhead_40 rfl (lv_at hl 0 rfl) ?_
    exact W.iret (v := nI (zf_cnt (al_p be k) i)) hx hb hr (zq_qi (by first | with_reducible rfl | simp [d_0, ei_i]) hP hK hD hS) hS.2.2 dX0_countAhead_41
  · have d_0 := Nat.not_le.mp (fun h => c_0 ((nI_leI (a := 60) (b := i) (by omega) (by omega)).mpr h))
    refine lv_aload_n hx hb dX0_countAhead_13 rfl (lv_at hl 2 rfl) ?_
    refine va_get (D := (dC, dI)) (ci := 0) (v := .ref (a 14)) (C := RX0) (T := TX0) (N := 1) hx hb hts hin_0 hown hK hP 0 rfl rfl 0 (by decide) hf_9 (fun _ h9 => h9) rfl dX0_countAhead_14 ?_
    refine lv_iload_n hx hb dX0_countAhead_17 rfl (lv_at hl 1 rfl) ?_
    refine zq_iald hx hb hK hP 1 0 rfl rfl (j := i) (by omega) (by decide) dX0_countAhead_18 ?_
    refine lv_if_eq (tgt := 34) hx hb dX0_countAhead_19 (by decide) (fun c_1 => ?_) (fun c_1 => ?_)
    · refine lv_iinc (v := nI (i + 1)) (lv' := [(3, .int (nI (i + 1))), (2, .int (nI (zf_cnt (al_p be k) i))), (0, .ref (a 13)), (1, .int (nI k))]) hx hb dX0_countAhead_34 hl (k := 1) rfl (nI_add _ 1) (by decide) rfl (fun ls hl => ?_)
      refine lv_goto (tgt := 4) hx hb dX0_countAhead_37 (by decide) ?_
      have e_2 : (nI (zf_cnt (al_p be k) (i + 1))) = (nI (zf_cnt (al_p be k) i)) := by rw [zf_cnt_f (by simp [al_p, d_0, c_1])]
      exact ih_i _ _ _ (by omega) ⟨(by (try rw [e_2]); exact hP), (by (try rw [e_2]); exact hD), hS, (by (try rw [e_2]); exact lv_sub hl [1, 0, 2, 3] rfl)⟩
    · refine lv_aload_n hx hb dX0_countAhead_22 rfl (lv_at hl 2 rfl) ?_
      refine lv_iload_n hx hb dX0_countAhead_23 rfl (lv_at hl 1 rfl) ?_
      refine lv_iload_n hx hb dX0_countAhead_24 rfl (lv_at hl 3 rfl) ?_
      refine zq_cVi (As := [.int (nI i), .int (nI k)]) (rest := []) (wc := (wAl a cI be)) (w1 := (wAl a cI be)) (wr := ([] : va_W)) (ws' := (wAl a cI be)) ⟨hx, hb, hml, hown, hts⟩ (c_X0_isAhead l dC dI a cI cZ cD be i k (by omega) (by omega) H.size) (cwV 2 hts gX0_countAhead_X0_isAhead rfl rfl rfl (by decide +kernel) ⟨Nat.le_of_ble_eq_true rfl, Nat.le_of_ble_eq_true rfl⟩) hK hP hD hS hA [0, 1] [] [0, 1] rfl rfl rfl rfl (by decide) rfl rfl (ci := 0) rfl 0 rfl rfl hl.1 rfl (Nat.le_of_ble_eq_true rfl) dX0_countAhead_25 ⟨Nat.zero_le _, Nat.zero_le _⟩ (fun H locs hP hD hS => ?_)
      refine lv_if_eq (tgt := 34) hx hb dX0_countAhead_28 (by decide) (fun c_3 => ?_) (fun c_3 => ?_)
      · have d_3 := zb_eq c_3
        refine lv_iinc (v := nI (i + 1)) (lv' := [(3, .int (nI (i + 1))), (2, .int (nI (zf_cnt (al_p be k) i))), (0, .ref (a 13)), (1, .int (nI k))]) hx hb dX0_countAhead_34 hl (k := 1) rfl (nI_add _ 1) (by decide) rfl (fun ls hl => ?_)
        refine lv_goto (tgt := 4) hx hb dX0_countAhead_37 (by decide) ?_
        have e_4 : (nI (zf_cnt (al_p be k) (i + 1))) = (nI (zf_cnt (al_p be k) i)) := by rw [zf_cnt_f (by simp [al_p, d_0, c_1, d_3])]
        exact ih_i _ _ _ (by omega) ⟨(by (try rw [e_4]); exact hP), (by (try rw [e_4]); exact hD), hS, (by (try rw [e_4]); exact lv_sub hl [1, 0, 2, 3] rfl)⟩
      · have d_3 := zb_ne c_3
        refine lv_iinc (v := nI ((zf_cnt (al_p be k) i) + 1)) (lv' := [(2, .int (nI ((zf_cnt (al_p be k) i) + 1))), (3, .int (nI i)), (0, .ref (a 13)), (1, .int (nI k))]) hx hb dX0_countAhead_31 hl (k := 0) rfl (nI_add _ 1) (by decide) rfl (fun ls hl => ?_)
        refine lv_iinc (v := nI (i + 1)) (lv' := [(3, .int (nI (i + 1))), (2, .int (nI ((zf_cnt (al_p be k) i) + 1))), (0, .ref (a 13)), (1, .int (nI k))]) hx hb dX0_countAhead_34 hl (k := 1) rfl (nI_add _ 1) (by decide) rfl (fun ls hl => ?_)
        refine lv_goto (tgt := 4) hx hb dX0_countAhead_37 (by decide) ?_
        have e_5 : (nI (zf_cnt (al_p be k) (i + 1))) = (nI ((zf_cnt (al_p be k) i) + 1)) := by rw [zf_cnt_t (by simp [al_p, d_0, c_1, d_3])]
        exact ih_i _ _ _ (by omega) ⟨(by (try rw [e_5]); exact hP), (by (try rw [e_5]); exact hD), hS, (by (try rw [e_5]); exact lv_sub hl [1, 0, 2, 3] rfl)⟩

set_option maxHeartbeats 4000000 in
set_option maxRecDepth 100000 in
theorem c_X0_lastingAt (l : Launch) (dC : Nat → ClassId) (dI : Nat → Nat → Nat) (a : Nat → Nat) (cI cZ cD : ClassId) (be : Nat → Int32) (pl : Int32) (sz : Nat) : zq_Mi l yX0_lastingAt wsX0_lastingAt ({ frames := 2, cells := 0, slots := 0, locals := 45 } : Room) (dC, dI) (zq_T cI cZ cD) [.ref (a 13), .int pl] (wAl a cI be) (zf_find (al_hit be pl) 60 0) (wAl a cI be) sz := by
  refine Met.ofW (cc := cX0_lastingAt) (maxL := 3) (ret := (some .int)) (by decide) rfl ?_
  intro p e s m args below meth c s₁ B hml hv
  obtain ⟨rfl, hsz, hP, hK, hD0⟩ := hv
  have hx := B.exec
  have hb := B.bytes
  have hr := B.returns
  have hts := atoms_spec (ws := wsX0_lastingAt) B.pre
  have hown : s.vm.findClass RX0 = some m.cls := findClass_of_methodNamed B.named
  have hlocks := B.notSynchronized
  subst hsz
  have hD := hD0.self (sz := s.heap.size)
  generalize hAe : va_A (wAl a cI be) s.heap.size = A at hD ⊢
  have hA : ∀ q : Nat, s.heap.size ≤ q → A q := fun q h => by rw [← hAe]; exact Or.inr h
  have hS : va_S A s.heap s.heap [] := va_S.rf
  have hP : va_P (dC, dI) vwCl (wAl a cI be) s.heap := hP
  have hl := lv_entry ([.ref (a 13), .int pl]) (n := 3) (Nat.le_of_ble_eq_true rfl)
  rw [lg_entry_eq]
  generalize (lg_sl ([.ref (a 13), .int pl]) ++ List.replicate (3 - (lg_sl ([.ref (a 13), .int pl])).length) Slot.unset).toArray = ls at hl ⊢
  have hl : lv_has ls 3 [(0, .ref (a 13)), (1, .int pl)] := hl
  have hf_9 := hts (.fieldLink RX0 9 "LampRoom$Alarms" "began" "[I") (by decide +kernel)
  have hin_0 : ∀ w ∈ wsX00, w ∈ wsX0_lastingAt := by decide +kernel
  refine lv_iconst (v := 0) hx hb dX0_lastingAt_0 (by decide) ?_
  refine lv_istore_n (lv' := [(2, .int 0), (0, .ref (a 13)), (1, .int pl)]) hx hb dX0_lastingAt_1 rfl hl (by decide) rfl (fun ls hl => ?_)
  refine zq_loop 2 60 (fun i H locs ls => va_P (dC, dI) vwCl (wAl a cI be) H ∧ va_D A (wAl a cI be) ∧ va_S A s.heap H locs ∧ lv_has ls 3 [(2, .int (nI i)), (0, .ref (a 13)), (1, .int pl)] ∧ zf_find (al_hit be pl) (60 - i) i = zf_find (al_hit be pl) 60 0) ?_ 0 (by omega) _ _ _ ⟨hP, hD, hS, lv_sub hl [0, 1, 2] rfl, rfl⟩
  intro i hi_i ih_i H locs ls hh
  obtain ⟨hP, hD, hS, hl, hx_i⟩ := hh
  refine lv_iload_n hx hb dX0_lastingAt_2 rfl (lv_at hl 0 rfl) ?_
  refine lv_aload_n hx hb dX0_lastingAt_3 rfl (lv_at hl 1 rfl) ?_
  refine va_get (D := (dC, dI)) (ci := 0) (v := .ref (a 14)) (C := RX0) (T := TX0) (N := 1) hx hb hts hin_0 hown hK hP 0 rfl rfl 0 (by decide) hf_9 (fun _ h9 => h9) rfl dX0_lastingAt_4 ?_
  refine va_alen hx hb hK hP 1 0 rfl rfl (v := nI 60) rfl dX0_lastingAt_7 ?_
  refine lv_icmp_ge (tgt := 37) hx hb dX0_lastingAt_8 (by decide) (fun c_0 => ?_) (fun c_0 => ?_)
  · have d_0 := (nI_leI (a := 60) (b := i) (by omega) (by omega)).mp c_0
    have ei_i : i = 60 := by omega
    refine lv_iconst (v := (-1)) hx hb dX0_lastingAt_37 (by decide) ?_
    exact W.iret (v := (-1)) hx hb hr (zq_qi (by rw [← hx_i]; exact (zf_end (by omega)).symm) hP hK hD hS) hS.2.2 dX0_lastingAt_38
  · have d_0 := Nat.not_le.mp (fun h => c_0 ((nI_leI (a := 60) (b := i) (by omega) (by omega)).mpr h))
    refine lv_aload_n hx hb dX0_lastingAt_11 rfl (lv_at hl 1 rfl) ?_
    refine va_get (D := (dC, dI)) (ci := 0) (v := .ref (a 14)) (C := RX0) (T := TX0) (N := 1) hx hb hts hin_0 hown hK hP 0 rfl rfl 0 (by decide) hf_9 (fun _ h9 => h9) rfl dX0_lastingAt_12 ?_
    refine lv_iload_n hx hb dX0_lastingAt_15 rfl (lv_at hl 0 rfl) ?_
    refine zq_iald hx hb hK hP 1 0 rfl rfl (j := i) (by omega) (by decide) dX0_lastingAt_16 ?_
    refine lv_if_eq (tgt := 31) hx hb dX0_lastingAt_17 (by decide) (fun c_1 => ?_) (fun c_1 => ?_)
    · refine lv_iinc (v := nI (i + 1)) (lv' := [(2, .int (nI (i + 1))), (0, .ref (a 13)), (1, .int pl)]) hx hb dX0_lastingAt_31 hl (k := 0) rfl (nI_add _ 1) (by decide) rfl (fun ls hl => ?_)
      refine lv_goto (tgt := 2) hx hb dX0_lastingAt_34 (by decide) ?_
      exact ih_i _ _ _ (by omega) ⟨hP, hD, hS, lv_sub hl [0, 1, 2] rfl, (by rw [← hx_i]; exact (zf_miss (by omega) (by simp [al_hit, d_0, c_1])).symm)⟩
    · refine lv_aload_n hx hb dX0_lastingAt_20 rfl (lv_at hl 1 rfl) ?_
      refine lv_iload_n hx hb dX0_lastingAt_21 rfl (lv_at hl 0 rfl) ?_
      refine zq_cVi (As := [.int (nI i)]) (rest := []) (wc := (wAl a cI be)) (w1 := (wAl a cI be)) (wr := ([] : va_W)) (ws' := (wAl a cI be)) ⟨hx, hb, hml, hown, hts⟩ (c_X0_countAhead l dC dI a cI cZ cD be i (by omega) H.size) (cwV 1 hts gX0_lastingAt_X0_countAhead rfl rfl rfl (by decide +kernel) ⟨Nat.le_of_ble_eq_true rfl, Nat.le_of_ble_eq_true rfl⟩) hK hP hD hS hA [0, 1] [] [0, 1] rfl rfl rfl rfl (by decide) rfl rfl (ci := 0) rfl 0 rfl rfl hl.1 rfl (Nat.le_of_ble_eq_true rfl) dX0_lastingAt_22 ⟨Nat.zero_le _, Nat.zero_le _⟩ (fun H locs hP hD hS => ?_)
      refine lv_iload_n hx hb dX0_lastingAt_25 rfl (lv_at hl 2 rfl) ?_
      refine lv_icmp_ne (tgt := 31) hx hb dX0_lastingAt_26 (by decide) (fun c_2 => ?_) (fun c_2 => ?_)
      · refine lv_iinc (v := nI (i + 1)) (lv' := [(2, .int (nI (i + 1))), (0, .ref (a 13)), (1, .int pl)]) hx hb dX0_lastingAt_31 hl (k := 0) rfl (nI_add _ 1) (by decide) rfl (fun ls hl => ?_)
        refine lv_goto (tgt := 2) hx hb dX0_lastingAt_34 (by decide) ?_
        exact ih_i _ _ _ (by omega) ⟨hP, hD, hS, lv_sub hl [0, 1, 2] rfl, (by rw [← hx_i]; exact (zf_miss (by omega) (by simp [al_hit, d_0, c_1, c_2])).symm)⟩
      · refine lv_iload_n hx hb dX0_lastingAt_29 rfl (lv_at hl 0 rfl) ?_
        exact W.iret (v := nI i) hx hb hr (zq_qi (by rw [← hx_i]; exact (zf_hit (by omega) (by simp [al_hit, d_0, c_1, c_2])).symm) hP hK hD hS) hS.2.2 dX0_lastingAt_30

