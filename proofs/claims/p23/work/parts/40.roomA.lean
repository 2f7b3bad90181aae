set_option maxHeartbeats 4000000 in
set_option maxRecDepth 100000 in
theorem c_X1_hundredthsOnRack (l : Launch) (dC : Nat → ClassId) (dI : Nat → Nat → Nat) (a : Nat → Nat) (cI cZ cD : ClassId) (ki pl tu le : Nat → Int32) (ch ca : Nat → UInt64) (N : Nat) (hN : N ≤ 40) (hp : ∀ i, i < 40 → zn_p (ch i)) (hc : ∀ i, i < 40 → zn_p (ca i)) (sz : Nat) : zq_Mi l yX1_hundredthsOnRack wsX1_hundredthsOnRack ({ frames := 0, cells := 0, slots := 0, locals := 0 } : Room) (dC, dI) (zq_T cI cZ cD) [.ref (a 1)] (wLa a cI cZ cD ki pl tu le ch ca (nI N)) (la_rc (la_sum pl ch N) (la_sum pl ca N)) (wLa a cI cZ cD ki pl tu le ch ca (nI N)) sz := by
  refine Met.ofW (cc := cX1_hundredthsOnRack) (maxL := 6) (ret := (some .int)) (by decide) rfl ?_
  intro p e s m args below meth c s₁ B hml hv
  obtain ⟨rfl, hsz, hP, hK, hD0⟩ := hv
  have hx := B.exec
  have hb := B.bytes
  have hr := B.returns
  have hts := atoms_spec (ws := wsX1_hundredthsOnRack) B.pre
  have hown : s.vm.findClass RX1 = some m.cls := findClass_of_methodNamed B.named
  have hlocks := B.notSynchronized
  subst hsz
  have hD := hD0.self (sz := s.heap.size)
  generalize hAe : va_A (wLa a cI cZ cD ki pl tu le ch ca (nI N)) s.heap.size = A at hD ⊢
  have hA : ∀ q : Nat, s.heap.size ≤ q → A q := fun q h => by rw [← hAe]; exact Or.inr h
  have hS : va_S A s.heap s.heap [] := va_S.rf
  have hP : va_P (dC, dI) vwCl (wLa a cI cZ cD ki pl tu le ch ca (nI N)) s.heap := hP
  have hl := lv_entry ([.ref (a 1)]) (n := 6) (Nat.le_of_ble_eq_true rfl)
  rw [lg_entry_eq]
  generalize (lg_sl ([.ref (a 1)]) ++ List.replicate (6 - (lg_sl ([.ref (a 1)])).length) Slot.unset).toArray = ls at hl ⊢
  have hl : lv_has ls 6 [(0, .ref (a 1))] := hl
  have hf_32 := hts (.fieldLink RX1 32 "LampRoom$Lamps" "count" "I") (by decide +kernel)
  have hin_1 : ∀ w ∈ wsX10, w ∈ wsX1_hundredthsOnRack := by decide +kernel
  have hc_58 := hts (.constantDouble RX1 58 (4636737291354636288)) (by decide +kernel)
  have hf_15 := hts (.fieldLink RX1 15 "LampRoom$Lamps" "places" "[I") (by decide +kernel)
  have hf_25 := hts (.fieldLink RX1 25 "LampRoom$Lamps" "charges" "[D") (by decide +kernel)
  have hf_29 := hts (.fieldLink RX1 29 "LampRoom$Lamps" "capacities" "[D") (by decide +kernel)
  refine zq_dconst0 hx hb dX1_hundredthsOnRack_0 ?_
  refine lv_dstore_n (lv' := [(1, .double 0), (0, .ref (a 1))]) hx hb dX1_hundredthsOnRack_1 rfl hl (by decide) rfl (fun ls hl => ?_)
  refine zq_dconst0 hx hb dX1_hundredthsOnRack_2 ?_
  refine lv_dstore_n (lv' := [(3, .double 0), (1, .double 0), (0, .ref (a 1))]) hx hb dX1_hundredthsOnRack_3 rfl hl (by decide) rfl (fun ls hl => ?_)
  refine lv_iconst (v := 0) hx hb dX1_hundredthsOnRack_4 (by decide) ?_
  refine lv_istore (lv' := [(5, .int 0), (3, .double 0), (1, .double 0), (0, .ref (a 1))]) hx hb dX1_hundredthsOnRack_5 hl (by decide) rfl (fun ls hl => ?_)
  refine zq_loop 7 N (fun i H locs ls => va_P (dC, dI) vwCl (wLa a cI cZ cD ki pl tu le ch ca (nI N)) H ∧ va_D A (wLa a cI cZ cD ki pl tu le ch ca (nI N)) ∧ va_S A s.heap H locs ∧ lv_has ls 6 [(1, .double (la_sum pl ch i)), (3, .double (la_sum pl ca i)), (5, .int (nI i)), (0, .ref (a 1))]) ?_ 0 (by omega) _ _ _ ⟨hP, hD, hS, lv_sub hl [2, 1, 0, 3] rfl⟩
  intro i hi_i ih_i H locs ls hh
  obtain ⟨hP, hD, hS, hl⟩ := hh
  refine lv_iload hx hb dX1_hundredthsOnRack_7 (lv_at hl 2 rfl) ?_
  refine lv_aload_n hx hb dX1_hundredthsOnRack_9 rfl (lv_at hl 3 rfl) ?_
  refine va_get (D := (dC, dI)) (ci := 1) (v := .int (nI N)) (C := RX1) (T := TX1) (N := 7) hx hb hts hin_1 hown hK hP 0 rfl rfl 6 (by decide) hf_32 (fun _ h9 => h9) rfl dX1_hundredthsOnRack_10 ?_
  refine lv_icmp_ge (tgt := 52) hx hb dX1_hundredthsOnRack_13 (by decide) (fun c_0 => ?_) (fun c_0 => ?_)
  · have d_0 := (nI_leI (a := N) (b := i) (by omega) (by omega)).mp c_0
    have ei_i : i = N := by omega
    have zs := zn_K_mono (L := 2047) (zn_sum (pl := pl) hp (by omega) N (by omega)) (by omega)
    have zk := zn_K_mono (L := 2047) (zn_sum (pl := pl) hc (by omega) N (by omega)) (by omega)
    rw [ei_i] at hl
    refine lv_dload_n hx hb dX1_hundredthsOnRack_52 rfl (lv_at hl 1 rfl) ?_
    refine zq_dconst0 hx hb dX1_hundredthsOnRack_53 ?_
    refine lv_dcmp hx hb dX1_hundredthsOnRack_54 ?_
    refine lv_if_le (tgt := 69) hx hb dX1_hundredthsOnRack_55 (by decide) (fun c_1 => ?_) (fun c_1 => ?_)
    · have hg0 : ¬ la_gt (la_sum pl ca N) 0 = true := fun q => of_decide_eq_true q c_1
      refine lv_iconst (v := 0) hx hb dX1_hundredthsOnRack_69 (by decide) ?_
      exact W.iret (v := 0) hx hb hr (zq_qi (by rw [la_rc, if_neg hg0]) hP hK hD hS) hS.2.2 dX1_hundredthsOnRack_70
    · have hg0 : la_gt (la_sum pl ca N) 0 = true := decide_eq_true c_1
      have hk0 := (fz_gt0 (Nat.le_of_lt (zn_K_le zk (by decide)))).mp hg0
      refine lv_dload_n hx hb dX1_hundredthsOnRack_58 rfl (lv_at hl 0 rfl) ?_
      refine lv_dload_n hx hb dX1_hundredthsOnRack_59 rfl (lv_at hl 1 rfl) ?_
      refine lv_ddiv hx hb dX1_hundredthsOnRack_60 (zn_of_ne (zn_divn zs zk (by decide) hk0).1) ?_
      refine lv_ldc2d hx hb hown hc_58 dX1_hundredthsOnRack_61 ?_
      refine lv_dmul hx hb dX1_hundredthsOnRack_64 (zn_of_ne (zn_divn zs zk (by decide) hk0).2) ?_
      refine lv_d2i hx hb dX1_hundredthsOnRack_65 ?_
      refine lv_goto (tgt := 70) hx hb dX1_hundredthsOnRack_66 (by decide) ?_
      exact W.iret (v := FP.d2i (FP.dmul (FP.ddiv (la_sum pl ch N) (la_sum pl ca N)) 4636737291354636288)) hx hb hr (zq_qi (by rw [la_rc, if_pos hg0]) hP hK hD hS) hS.2.2 dX1_hundredthsOnRack_70
  · have d_0 := Nat.not_le.mp (fun h => c_0 ((nI_leI (a := N) (b := i) (by omega) (by omega)).mpr h))
    refine lv_aload_n hx hb dX1_hundredthsOnRack_16 rfl (lv_at hl 3 rfl) ?_
    refine va_get (D := (dC, dI)) (ci := 1) (v := .ref (a 3)) (C := RX1) (T := TX1) (N := 7) hx hb hts hin_1 hown hK hP 0 rfl rfl 1 (by decide) hf_15 (fun _ h9 => h9) rfl dX1_hundredthsOnRack_17 ?_
    refine lv_iload hx hb dX1_hundredthsOnRack_20 (lv_at hl 2 rfl) ?_
    refine zq_iald hx hb hK hP 2 0 rfl rfl (j := i) (by omega) (by decide) dX1_hundredthsOnRack_22 ?_
    refine lv_if_ne (tgt := 46) hx hb dX1_hundredthsOnRack_23 (by decide) (fun c_2 => ?_) (fun c_2 => ?_)
    · refine lv_iinc (v := nI (i + 1)) (lv' := [(5, .int (nI (i + 1))), (1, .double (la_sum pl ch i)), (3, .double (la_sum pl ca i)), (0, .ref (a 1))]) hx hb dX1_hundredthsOnRack_46 hl (k := 2) rfl (nI_add _ 1) (by decide) rfl (fun ls hl => ?_)
      refine lv_goto (tgt := 7) hx hb dX1_hundredthsOnRack_49 (by decide) ?_
      have e_3 : (la_sum pl ch (i + 1)) = (la_sum pl ch i) := by simp [la_sum, d_0, c_2]
      have e_4 : (la_sum pl ca (i + 1)) = (la_sum pl ca i) := by simp [la_sum, d_0, c_2]
      exact ih_i _ _ _ (by omega) ⟨(by (try rw [e_3]); (try rw [e_4]); exact hP), (by (try rw [e_3]); (try rw [e_4]); exact hD), hS, (by (try rw [e_3]); (try rw [e_4]); exact lv_sub hl [1, 2, 0, 3] rfl)⟩
    · refine lv_dload_n hx hb dX1_hundredthsOnRack_26 rfl (lv_at hl 0 rfl) ?_
      refine lv_aload_n hx hb dX1_hundredthsOnRack_27 rfl (lv_at hl 3 rfl) ?_
      refine va_get (D := (dC, dI)) (ci := 1) (v := .ref (a 6)) (C := RX1) (T := TX1) (N := 7) hx hb hts hin_1 hown hK hP 0 rfl rfl 4 (by decide) hf_25 (fun _ h9 => h9) rfl dX1_hundredthsOnRack_28 ?_
      refine lv_iload hx hb dX1_hundredthsOnRack_31 (lv_at hl 2 rfl) ?_
      refine zq_dald hx hb hK hP 5 2 rfl rfl (j := i) (by omega) (by decide) dX1_hundredthsOnRack_33 ?_
      refine lv_dadd hx hb dX1_hundredthsOnRack_34 (zn_sum_n hp (by omega) (by omega)) ?_
      refine lv_dstore_n (lv' := [(1, .double (FP.dadd (la_sum pl ch i) (ch i))), (3, .double (la_sum pl ca i)), (5, .int (nI i)), (0, .ref (a 1))]) hx hb dX1_hundredthsOnRack_35 rfl hl (by decide) rfl (fun ls hl => ?_)
      refine lv_dload_n hx hb dX1_hundredthsOnRack_36 rfl (lv_at hl 1 rfl) ?_
      refine lv_aload_n hx hb dX1_hundredthsOnRack_37 rfl (lv_at hl 3 rfl) ?_
      refine va_get (D := (dC, dI)) (ci := 1) (v := .ref (a 7)) (C := RX1) (T := TX1) (N := 7) hx hb hts hin_1 hown hK hP 0 rfl rfl 5 (by decide) hf_29 (fun _ h9 => h9) rfl dX1_hundredthsOnRack_38 ?_
      refine lv_iload hx hb dX1_hundredthsOnRack_41 (lv_at hl 2 rfl) ?_
      refine zq_dald hx hb hK hP 6 2 rfl rfl (j := i) (by omega) (by decide) dX1_hundredthsOnRack_43 ?_
      refine lv_dadd hx hb dX1_hundredthsOnRack_44 (zn_sum_n hc (by omega) (by omega)) ?_
      refine lv_dstore_n (lv' := [(3, .double (FP.dadd (la_sum pl ca i) (ca i))), (1, .double (FP.dadd (la_sum pl ch i) (ch i))), (5, .int (nI i)), (0, .ref (a 1))]) hx hb dX1_hundredthsOnRack_45 rfl hl (by decide) rfl (fun ls hl => ?_)
      refine lv_iinc (v := nI (i + 1)) (lv' := [(5, .int (nI (i + 1))), (3, .double (FP.dadd (la_sum pl ca i) (ca i))), (1, .double (FP.dadd (la_sum pl ch i) (ch i))), (0, .ref (a 1))]) hx hb dX1_hundredthsOnRack_46 hl (k := 2) rfl (nI_add _ 1) (by decide) rfl (fun ls hl => ?_)
      refine lv_goto (tgt := 7) hx hb dX1_hundredthsOnRack_49 (by decide) ?_
      have e_5 : (la_sum pl ch (i + 1)) = (FP.dadd (la_sum pl ch i) (ch i)) := by simp [la_sum, d_0, c_2]
      have e_6 : (la_sum pl ca (i + 1)) = (FP.dadd (la_sum pl ca i) (ca i)) := by simp [la_sum, d_0, c_2]
      exact ih_i _ _ _ (by omega) ⟨(by (try rw [e_5]); (try rw [e_6]); exact hP), (by (try rw [e_5]); (try rw [e_6]); exact hD), hS, (by (try rw [e_5]); (try rw [e_6]); exact lv_sub hl [2, 1, 0, 3] rfl)⟩

set_option maxHeartbeats 4000000 in
set_option maxRecDepth 100000 in
theorem c_X3_checkKind_ok (l : Launch) (k : Int32) (hk : in_b k 0 2 = true) : zq_Sv l yX3_checkKind wsX3_checkKind ({ frames := 0, cells := 0, slots := 0, locals := 0 } : Room) [.int k] := by
  refine Met.ofW (cc := cX3_checkKind) (maxL := 1) (ret := none) (by decide) rfl ?_
  intro p e s m args below meth c s₁ B hml hv
  obtain ⟨rfl, -⟩ := hv
  have hx := B.exec
  have hb := B.bytes
  have hr := B.returns
  have hts := atoms_spec (ws := wsX3_checkKind) B.pre
  have hown : s.vm.findClass RX3 = some m.cls := findClass_of_methodNamed B.named
  have hlocks := B.notSynchronized
  have hS : va_S (fun _ => False) s.heap s.heap [] := va_S.rf
  have hl := lv_entry ([.int k]) (n := 1) (Nat.le_of_ble_eq_true rfl)
  rw [lg_entry_eq]
  generalize (lg_sl ([.int k]) ++ List.replicate (1 - (lg_sl ([.int k])).length) Slot.unset).toArray = ls at hl ⊢
  have hl : lv_has ls 1 [(0, .int k)] := hl
  refine lv_iload_n hx hb dX3_checkKind_0 rfl (lv_at hl 0 rfl) ?_
  refine lv_if_lt (tgt := 9) hx hb dX3_checkKind_1 (by decide) (fun c_0 => ?_) (fun c_0 => ?_)
  · exact absurd c_0 (in_b_k hk).1
  · refine lv_iload_n hx hb dX3_checkKind_4 rfl (lv_at hl 0 rfl) ?_
    refine lv_iconst (v := 3) hx hb dX3_checkKind_5 (by decide) ?_
    refine lv_icmp_lt (tgt := 19) hx hb dX3_checkKind_6 (by decide) (fun c_1 => ?_) (fun c_1 => ?_)
    · exact W.vret hx hb hr (fun t ht hW => ⟨⟨(), rfl, trivial, trivial⟩, hS.F ht⟩) (fun q hq => (hS.2.2 q hq).elim) dX3_checkKind_19
    · exact absurd (in_b_k hk).2 c_1

set_option maxHeartbeats 4000000 in
set_option maxRecDepth 100000 in
theorem c_X3_checkKind_bad (l : Launch) (hl0 : l.stackTraces = false) (dC : Nat → ClassId) (dI : Nat → Nat → Nat) (cI cZ cD : ClassId) (k : Int32) (hk : in_b k 0 2 = false) (sz : Nat) : zx_Mv l yX3_checkKind wsX3_checkKind ({ frames := 6, cells := 1, slots := 6, locals := 90 } : Room) (dC, dI) (zq_T cI cZ cD) [.int k] ([] : va_W) zx_A sz := by
  refine vx_ofW (cc := cX3_checkKind) (maxL := 1) (ret := none) (by decide) rfl ?_
  intro p e s m args below meth c s₁ B hml hno hv
  obtain ⟨rfl, ⟨hsz, hP, hK, hD0⟩, hH, hE⟩ := hv
  have hx := B.exec
  have hb := B.bytes
  have hr := B.returns
  have hts := atoms_spec (ws := wsX3_checkKind) B.pre
  have hown : s.vm.findClass RX3 = some m.cls := findClass_of_methodNamed B.named
  have hlocks := B.notSynchronized
  subst hsz
  have hD := hD0.self (sz := s.heap.size)
  generalize hAe : va_A ([] : va_W) s.heap.size = A at hD hH ⊢
  have hA : ∀ q : Nat, s.heap.size ≤ q → A q := fun q h => by rw [← hAe]; exact Or.inr h
  have hS : va_S A s.heap s.heap [] := va_S.rf
  have hP : va_P (dC, dI) vwCl ([] : va_W) s.heap := hP
  have hl := lv_entry ([.int k]) (n := 1) (Nat.le_of_ble_eq_true rfl)
  rw [lg_entry_eq]
  generalize (lg_sl ([.int k]) ++ List.replicate (1 - (lg_sl ([.int k])).length) Slot.unset).toArray = ls at hl ⊢
  have hl : lv_has ls 1 [(0, .int k)] := hl
  have hthk := hts (.classLink RX3 113 zx_A) (by decide +kernel)
  have hthi := hts (.initialized zx_A) (by decide +kernel)
  have hthw : ∀ w ∈ (vx_atS RX3 117 zx_A zx_N).filter goodWord, w.before _ s = true := fun w h => hts w ((by decide +kernel : ∀ w ∈ (vx_atS RX3 117 zx_A zx_N).filter goodWord, w ∈ wsX3_checkKind) w h)
  refine lv_iload_n hx hb dX3_checkKind_0 rfl (lv_at hl 0 rfl) ?_
  refine lv_if_lt (tgt := 9) hx hb dX3_checkKind_1 (by decide) (fun c_0 => ?_) (fun c_0 => ?_)
  · obtain ⟨sa, hsa⟩ := hE.2.1
    exact vw_throwS (A := A) (text := "there is no such class") (names := zx_N) hx hb hl0 hown (by decide +kernel) (by decide +kernel) hthk hthi hsa (zx_hatA hthw hE) zx_goodA hH.1 hH.2 hS (hl.1.trans hml.symm) dX3_checkKind_9 dX3_checkKind_12 dX3_checkKind_13 dX3_checkKind_15 dX3_checkKind_18 (fun x hx => (hno x hx).elim) (Nat.le_of_ble_eq_true rfl) (Nat.le_of_ble_eq_true rfl) (Nat.le_of_ble_eq_true rfl) (Nat.le_of_ble_eq_true rfl) hlocks (zx_thrown hP hK hD hS) hS.2.2 (Nat.le_of_ble_eq_true rfl) (Nat.le_of_ble_eq_true rfl)
  · refine lv_iload_n hx hb dX3_checkKind_4 rfl (lv_at hl 0 rfl) ?_
    refine lv_iconst (v := 3) hx hb dX3_checkKind_5 (by decide) ?_
    refine lv_icmp_lt (tgt := 19) hx hb dX3_checkKind_6 (by decide) (fun c_1 => ?_) (fun c_1 => ?_)
    · exact ((in_b_kn hk).elim c_0 (fun h => h c_1)).elim
    · obtain ⟨sa, hsa⟩ := hE.2.1
      exact vw_throwS (A := A) (text := "there is no such class") (names := zx_N) hx hb hl0 hown (by decide +kernel) (by decide +kernel) hthk hthi hsa (zx_hatA hthw hE) zx_goodA hH.1 hH.2 hS (hl.1.trans hml.symm) dX3_checkKind_9 dX3_checkKind_12 dX3_checkKind_13 dX3_checkKind_15 dX3_checkKind_18 (fun x hx => (hno x hx).elim) (Nat.le_of_ble_eq_true rfl) (Nat.le_of_ble_eq_true rfl) (Nat.le_of_ble_eq_true rfl) (Nat.le_of_ble_eq_true rfl) hlocks (zx_thrown hP hK hD hS) hS.2.2 (Nat.le_of_ble_eq_true rfl) (Nat.le_of_ble_eq_true rfl)

set_option maxHeartbeats 4000000 in
set_option maxRecDepth 100000 in
theorem c_X3_checkMiner_ok (l : Launch) (dC : Nat → ClassId) (dI : Nat → Nat → Nat) (a : Nat → Nat) (cI cZ cD : ClassId) (ki pl tu le : Nat → Int32) (ch ca : Nat → UInt64) (N : Nat) (tk th hu od : Nat → Int32) (M : Nat) (ti : Int32) (be : Nat → Int32) (clk : Int32) (hN : N ≤ 40) (hM : M ≤ 30) (mi : Nat) (hm : mi < M) (sz : Nat) : zq_Mv l yX3_checkMiner wsX3_checkMiner ({ frames := 1, cells := 0, slots := 0, locals := 20 } : Room) (dC, dI) (zq_T cI cZ cD) [.ref (a 0), .int (nI mi)] (wRo a cI cZ cD ki pl tu le ch ca (nI N) tk th hu od (nI M) ti be clk) (wRo a cI cZ cD ki pl tu le ch ca (nI N) tk th hu od (nI M) ti be clk) sz := by
  refine Met.ofW (cc := cX3_checkMiner) (maxL := 2) (ret := none) (by decide) rfl ?_
  intro p e s m args below meth c s₁ B hml hv
  obtain ⟨rfl, hsz, hP, hK, hD0⟩ := hv
  have hx := B.exec
  have hb := B.bytes
  have hr := B.returns
  have hts := atoms_spec (ws := wsX3_checkMiner) B.pre
  have hown : s.vm.findClass RX3 = some m.cls := findClass_of_methodNamed B.named
  have hlocks := B.notSynchronized
  subst hsz
  have hD := hD0.self (sz := s.heap.size)
  generalize hAe : va_A (wRo a cI cZ cD ki pl tu le ch ca (nI N) tk th hu od (nI M) ti be clk) s.heap.size = A at hD ⊢
  have hA : ∀ q : Nat, s.heap.size ≤ q → A q := fun q h => by rw [← hAe]; exact Or.inr h
  have hS : va_S A s.heap s.heap [] := va_S.rf
  have hP : va_P (dC, dI) vwCl (wRo a cI cZ cD ki pl tu le ch ca (nI N) tk th hu od (nI M) ti be clk) s.heap := hP
  have hl := lv_entry ([.ref (a 0), .int (nI mi)]) (n := 2) (Nat.le_of_ble_eq_true rfl)
  rw [lg_entry_eq]
  generalize (lg_sl ([.ref (a 0), .int (nI mi)]) ++ List.replicate (2 - (lg_sl ([.ref (a 0), .int (nI mi)])).length) Slot.unset).toArray = ls at hl ⊢
  have hl : lv_has ls 2 [(0, .ref (a 0)), (1, .int (nI mi))] := hl
  have hf_19 := hts (.fieldLink RX3 19 "LampRoom" "tallies" "LLampRoom$Tallies;") (by decide +kernel)
  have hin_3 : ∀ w ∈ wsX30, w ∈ wsX3_checkMiner := by decide +kernel
  refine lv_iload_n hx hb dX3_checkMiner_0 rfl (lv_at hl 1 rfl) ?_
  refine lv_if_lt (tgt := 15) hx hb dX3_checkMiner_1 (by decide) (fun c_0 => ?_) (fun c_0 => ?_)
  · exact absurd c_0 (nI_pos (by omega))
  · refine lv_iload_n hx hb dX3_checkMiner_4 rfl (lv_at hl 1 rfl) ?_
    refine lv_aload_n hx hb dX3_checkMiner_5 rfl (lv_at hl 0 rfl) ?_
    refine va_get (D := (dC, dI)) (ci := 3) (v := .ref (a 8)) (C := RX3) (T := TX3) (N := 4) hx hb hts hin_3 hown hK hP 0 rfl rfl 1 (by decide) hf_19 (fun _ h9 => h9) rfl dX3_checkMiner_6 ?_
    refine zq_cVi (As := []) (rest := [.int (nI mi)]) (wc := (wTa a cI tk th hu od (nI M) ti)) (w1 := (wTa a cI tk th hu od (nI M) ti)) (wr := ([wRm a clk] ++ (wLa a cI cZ cD ki pl tu le ch ca (nI N) ++ (wAl a cI be)) : va_W)) (ws' := (wRo a cI cZ cD ki pl tu le ch ca (nI N) tk th hu od (nI M) ti be clk)) ⟨hx, hb, hml, hown, hts⟩ (c_X2_size l dC dI a cI cZ cD tk th hu od M ti (by omega) s.heap.size) (cwV 0 hts gX3_checkMiner_X2_size rfl rfl rfl (by decide +kernel) ⟨Nat.le_of_ble_eq_true rfl, Nat.le_of_ble_eq_true rfl⟩) hK hP hD hS hA [8, 9, 10, 11, 12] [0, 1, 2, 3, 4, 5, 6, 7, 13, 14] [0, 1, 2, 3, 4, 5, 6, 7, 10, 11, 12, 13, 14, 8, 9] rfl rfl rfl rfl (by decide) rfl rfl (ci := 2) rfl 0 rfl rfl hl.1 rfl (Nat.le_of_ble_eq_true rfl) dX3_checkMiner_9 ⟨Nat.zero_le _, Nat.zero_le _⟩ (fun H locs hP hD hS => ?_)
    refine lv_icmp_lt (tgt := 25) hx hb dX3_checkMiner_12 (by decide) (fun c_1 => ?_) (fun c_1 => ?_)
    · have d_1 := (nI_ltI (a := mi) (b := M) (by omega) (by omega)).mp c_1
      exact W.vret hx hb hr (zq_qv hP hK hD hS) hS.2.2 dX3_checkMiner_25
    · have d_1 := Nat.not_lt.mp (fun h => c_1 ((nI_ltI (a := mi) (b := M) (by omega) (by omega)).mpr h))
      exact absurd hm (by omega)

set_option maxHeartbeats 4000000 in
set_option maxRecDepth 100000 in
theorem c_X3_checkLamp_ok (l : Launch) (dC : Nat → ClassId) (dI : Nat → Nat → Nat) (a : Nat → Nat) (cI cZ cD : ClassId) (ki pl tu le : Nat → Int32) (ch ca : Nat → UInt64) (N : Nat) (tk th hu od : Nat → Int32) (M : Nat) (ti : Int32) (be : Nat → Int32) (clk : Int32) (hN : N ≤ 40) (hM : M ≤ 30) (j : Nat) (hj : j < N) (sz : Nat) : zq_Mv l yX3_checkLamp wsX3_checkLamp ({ frames := 1, cells := 0, slots := 0, locals := 20 } : Room) (dC, dI) (zq_T cI cZ cD) [.ref (a 0), .int (nI j)] (wRo a cI cZ cD ki pl tu le ch ca (nI N) tk th hu od (nI M) ti be clk) (wRo a cI cZ cD ki pl tu le ch ca (nI N) tk th hu od (nI M) ti be clk) sz := by
  refine Met.ofW (cc := cX3_checkLamp) (maxL := 2) (ret := none) (by decide) rfl ?_
  intro p e s m args below meth c s₁ B hml hv
  obtain ⟨rfl, hsz, hP, hK, hD0⟩ := hv
  have hx := B.exec
  have hb := B.bytes
  have hr := B.returns
  have hts := atoms_spec (ws := wsX3_checkLamp) B.pre
  have hown : s.vm.findClass RX3 = some m.cls := findClass_of_methodNamed B.named
  have hlocks := B.notSynchronized
  subst hsz
  have hD := hD0.self (sz := s.heap.size)
  generalize hAe : va_A (wRo a cI cZ cD ki pl tu le ch ca (nI N) tk th hu od (nI M) ti be clk) s.heap.size = A at hD ⊢
  have hA : ∀ q : Nat, s.heap.size ≤ q → A q := fun q h => by rw [← hAe]; exact Or.inr h
  have hS : va_S A s.heap s.heap [] := va_S.rf
  have hP : va_P (dC, dI) vwCl (wRo a cI cZ cD ki pl tu le ch ca (nI N) tk th hu od (nI M) ti be clk) s.heap := hP
  have hl := lv_entry ([.ref (a 0), .int (nI j)]) (n := 2) (Nat.le_of_ble_eq_true rfl)
  rw [lg_entry_eq]
  generalize (lg_sl ([.ref (a 0), .int (nI j)]) ++ List.replicate (2 - (lg_sl ([.ref (a 0), .int (nI j)])).length) Slot.unset).toArray = ls at hl ⊢
  have hl : lv_has ls 2 [(0, .ref (a 0)), (1, .int (nI j))] := hl
  have hf_10 := hts (.fieldLink RX3 10 "LampRoom" "lamps" "LLampRoom$Lamps;") (by decide +kernel)
  have hin_3 : ∀ w ∈ wsX30, w ∈ wsX3_checkLamp := by decide +kernel
  refine lv_iload_n hx hb dX3_checkLamp_0 rfl (lv_at hl 1 rfl) ?_
  refine lv_if_lt (tgt := 15) hx hb dX3_checkLamp_1 (by decide) (fun c_0 => ?_) (fun c_0 => ?_)
  · exact absurd c_0 (nI_pos (by omega))
  · refine lv_iload_n hx hb dX3_checkLamp_4 rfl (lv_at hl 1 rfl) ?_
    refine lv_aload_n hx hb dX3_checkLamp_5 rfl (lv_at hl 0 rfl) ?_
    refine va_get (D := (dC, dI)) (ci := 3) (v := .ref (a 1)) (C := RX3) (T := TX3) (N := 4) hx hb hts hin_3 hown hK hP 0 rfl rfl 0 (by decide) hf_10 (fun _ h9 => h9) rfl dX3_checkLamp_6 ?_
    refine zq_cVi (As := []) (rest := [.int (nI j)]) (wc := (wLa a cI cZ cD ki pl tu le ch ca (nI N))) (w1 := (wLa a cI cZ cD ki pl tu le ch ca (nI N))) (wr := ([wRm a clk] ++ (wTa a cI tk th hu od (nI M) ti ++ (wAl a cI be)) : va_W)) (ws' := (wRo a cI cZ cD ki pl tu le ch ca (nI N) tk th hu od (nI M) ti be clk)) ⟨hx, hb, hml, hown, hts⟩ (c_X1_size l dC dI a cI cZ cD ki pl tu le ch ca N (by omega) s.heap.size) (cwV 0 hts gX3_checkLamp_X1_size rfl rfl rfl (by decide +kernel) ⟨Nat.le_of_ble_eq_true rfl, Nat.le_of_ble_eq_true rfl⟩) hK hP hD hS hA [1, 2, 3, 4, 5, 6, 7] [0, 8, 9, 10, 11, 12, 13, 14] [0, 8, 9, 10, 11, 12, 13, 14, 1, 2, 3, 4, 5, 6, 7] rfl rfl rfl rfl (by decide) rfl rfl (ci := 1) rfl 0 rfl rfl hl.1 rfl (Nat.le_of_ble_eq_true rfl) dX3_checkLamp_9 ⟨Nat.zero_le _, Nat.zero_le _⟩ (fun H locs hP hD hS => ?_)
    refine lv_icmp_lt (tgt := 25) hx hb dX3_checkLamp_12 (by decide) (fun c_1 => ?_) (fun c_1 => ?_)
    · have d_1 := (nI_ltI (a := j) (b := N) (by omega) (by omega)).mp c_1
      exact W.vret hx hb hr (zq_qv hP hK hD hS) hS.2.2 dX3_checkLamp_25
    · have d_1 := Nat.not_lt.mp (fun h => c_1 ((nI_ltI (a := j) (b := N) (by omega) (by omega)).mpr h))
      exact absurd hj (by omega)

set_option maxHeartbeats 4000000 in
set_option maxRecDepth 100000 in
theorem c_X3_checkMiner_bad (l : Launch) (hl0 : l.stackTraces = false) (dC : Nat → ClassId) (dI : Nat → Nat → Nat) (a : Nat → Nat) (cI cZ cD : ClassId) (ki pl tu le : Nat → Int32) (ch ca : Nat → UInt64) (N : Nat) (tk th hu od : Nat → Int32) (M : Nat) (ti : Int32) (be : Nat → Int32) (clk : Int32) (hN : N ≤ 40) (hM : M ≤ 30) (x : Int32) (hx0 : in_b x 0 (nI M - 1) = false) (sz : Nat) : zx_Mv l yX3_checkMiner wsX3_checkMiner ({ frames := 6, cells := 1, slots := 6, locals := 90 } : Room) (dC, dI) (zq_T cI cZ cD) [.ref (a 0), .int x] (wRo a cI cZ cD ki pl tu le ch ca (nI N) tk th hu od (nI M) ti be clk) zx_I sz := by
  refine vx_ofW (cc := cX3_checkMiner) (maxL := 2) (ret := none) (by decide) rfl ?_
  intro p e s m args below meth c s₁ B hml hno hv
  obtain ⟨rfl, ⟨hsz, hP, hK, hD0⟩, hH, hE⟩ := hv
  have hx := B.exec
  have hb := B.bytes
  have hr := B.returns
  have hts := atoms_spec (ws := wsX3_checkMiner) B.pre
  have hown : s.vm.findClass RX3 = some m.cls := findClass_of_methodNamed B.named
  have hlocks := B.notSynchronized
  subst hsz
  have hD := hD0.self (sz := s.heap.size)
  generalize hAe : va_A (wRo a cI cZ cD ki pl tu le ch ca (nI N) tk th hu od (nI M) ti be clk) s.heap.size = A at hD hH ⊢
  have hA : ∀ q : Nat, s.heap.size ≤ q → A q := fun q h => by rw [← hAe]; exact Or.inr h
  have hS : va_S A s.heap s.heap [] := va_S.rf
  have hP : va_P (dC, dI) vwCl (wRo a cI cZ cD ki pl tu le ch ca (nI N) tk th hu od (nI M) ti be clk) s.heap := hP
  have hl := lv_entry ([.ref (a 0), .int x]) (n := 2) (Nat.le_of_ble_eq_true rfl)
  rw [lg_entry_eq]
  generalize (lg_sl ([.ref (a 0), .int x]) ++ List.replicate (2 - (lg_sl ([.ref (a 0), .int x])).length) Slot.unset).toArray = ls at hl ⊢
  have hl : lv_has ls 2 [(0, .ref (a 0)), (1, .int x)] := hl
  have hthk := hts (.classLink RX3 149 zx_I) (by decide +kernel)
  have hthi := hts (.initialized zx_I) (by decide +kernel)
  have hthw : ∀ w ∈ (vx_atS RX3 153 zx_I zx_N).filter goodWord, w.before _ s = true := fun w h => hts w ((by decide +kernel : ∀ w ∈ (vx_atS RX3 153 zx_I zx_N).filter goodWord, w ∈ wsX3_checkMiner) w h)
  have hf_19 := hts (.fieldLink RX3 19 "LampRoom" "tallies" "LLampRoom$Tallies;") (by decide +kernel)
  have hin_3 : ∀ w ∈ wsX30, w ∈ wsX3_checkMiner := by decide +kernel
  refine lv_iload_n hx hb dX3_checkMiner_0 rfl (lv_at hl 1 rfl) ?_
  refine lv_if_lt (tgt := 15) hx hb dX3_checkMiner_1 (by decide) (fun c_0 => ?_) (fun c_0 => ?_)
  · obtain ⟨sa, hsa⟩ := hE.2.2.2.2.1
    exact vw_throwS (A := A) (text := "there is no such miner") (names := zx_N) hx hb hl0 hown (by decide +kernel) (by decide +kernel) hthk hthi hsa (zx_hatI hthw hE) zx_goodI hH.1 hH.2 hS (hl.1.trans hml.symm) dX3_checkMiner_15 dX3_checkMiner_18 dX3_checkMiner_19 dX3_checkMiner_21 dX3_checkMiner_24 (fun x hx => (hno x hx).elim) (Nat.le_of_ble_eq_true rfl) (Nat.le_of_ble_eq_true rfl) (Nat.le_of_ble_eq_true rfl) (Nat.le_of_ble_eq_true rfl) hlocks (zx_thrown hP hK hD hS) hS.2.2 (Nat.le_of_ble_eq_true rfl) (Nat.le_of_ble_eq_true rfl)
  · refine lv_iload_n hx hb dX3_checkMiner_4 rfl (lv_at hl 1 rfl) ?_
    refine lv_aload_n hx hb dX3_checkMiner_5 rfl (lv_at hl 0 rfl) ?_
    refine va_get (D := (dC, dI)) (ci := 3) (v := .ref (a 8)) (C := RX3) (T := TX3) (N := 4) hx hb hts hin_3 hown hK hP 0 rfl rfl 1 (by decide) hf_19 (fun _ h9 => h9) rfl dX3_checkMiner_6 ?_
    refine zq_cVi (As := []) (rest := [.int x]) (wc := (wTa a cI tk th hu od (nI M) ti)) (w1 := (wTa a cI tk th hu od (nI M) ti)) (wr := ([wRm a clk] ++ (wLa a cI cZ cD ki pl tu le ch ca (nI N) ++ (wAl a cI be)) : va_W)) (ws' := (wRo a cI cZ cD ki pl tu le ch ca (nI N) tk th hu od (nI M) ti be clk)) ⟨hx, hb, hml, hown, hts⟩ (c_X2_size l dC dI a cI cZ cD tk th hu od M ti (by omega) s.heap.size) (cwV 0 hts gX3_checkMiner_X2_size rfl rfl rfl (by decide +kernel) ⟨Nat.le_of_ble_eq_true rfl, Nat.le_of_ble_eq_true rfl⟩) hK hP hD hS hA [8, 9, 10, 11, 12] [0, 1, 2, 3, 4, 5, 6, 7, 13, 14] [0, 1, 2, 3, 4, 5, 6, 7, 10, 11, 12, 13, 14, 8, 9] rfl rfl rfl rfl (by decide) rfl rfl (ci := 2) rfl 0 rfl rfl hl.1 rfl (Nat.le_of_ble_eq_true rfl) dX3_checkMiner_9 ⟨Nat.zero_le _, Nat.zero_le _⟩ (fun H locs hP hD hS => ?_)
    refine lv_icmp_lt (tgt := 25) hx hb dX3_checkMiner_12 (by decide) (fun c_1 => ?_) (fun c_1 => ?_)
    · exact ((in_b_n (by omega) hx0).elim c_0 (fun h => h c_1)).elim
    · obtain ⟨sa, hsa⟩ := hE.2.2.2.2.1
      exact vw_throwS (A := A) (text := "there is no such miner") (names := zx_N) hx hb hl0 hown (by decide +kernel) (by decide +kernel) hthk hthi hsa (zx_hatI hthw hE) zx_goodI hH.1 hH.2 hS (hl.1.trans hml.symm) dX3_checkMiner_15 dX3_checkMiner_18 dX3_checkMiner_19 dX3_checkMiner_21 dX3_checkMiner_24 (fun x hx => (hno x hx).elim) (Nat.le_of_ble_eq_true rfl) (Nat.le_of_ble_eq_true rfl) (Nat.le_of_ble_eq_true rfl) (Nat.le_of_ble_eq_true rfl) hlocks (zx_thrown hP hK hD hS) hS.2.2 (Nat.le_of_ble_eq_true rfl) (Nat.le_of_ble_eq_true rfl)

set_option maxHeartbeats 4000000 in
set_option maxRecDepth 100000 in
theorem c_X3_checkLamp_bad (l : Launch) (hl0 : l.stackTraces = false) (dC : Nat → ClassId) (dI : Nat → Nat → Nat) (a : Nat → Nat) (cI cZ cD : ClassId) (ki pl tu le : Nat → Int32) (ch ca : Nat → UInt64) (N : Nat) (tk th hu od : Nat → Int32) (M : Nat) (ti : Int32) (be : Nat → Int32) (clk : Int32) (hN : N ≤ 40) (hM : M ≤ 30) (x : Int32) (hx0 : in_b x 0 (nI N - 1) = false) (sz : Nat) : zx_Mv l yX3_checkLamp wsX3_checkLamp ({ frames := 6, cells := 1, slots := 6, locals := 90 } : Room) (dC, dI) (zq_T cI cZ cD) [.ref (a 0), .int x] (wRo a cI cZ cD ki pl tu le ch ca (nI N) tk th hu od (nI M) ti be clk) zx_I sz := by
  refine vx_ofW (cc := cX3_checkLamp) (maxL := 2) (ret := none) (by decide) rfl ?_
  intro p e s m args below meth c s₁ B hml hno hv
  obtain ⟨rfl, ⟨hsz, hP, hK, hD0⟩, hH, hE⟩ := hv
  have hx := B.exec
  have hb := B.bytes
  have hr := B.returns
  have hts := atoms_spec (ws := wsX3_checkLamp) B.pre
  have hown : s.vm.findClass RX3 = some m.cls := findClass_of_methodNamed B.named
  have hlocks := B.notSynchronized
  subst hsz
  have hD := hD0.self (sz := s.heap.size)
  generalize hAe : va_A (wRo a cI cZ cD ki pl tu le ch ca (nI N) tk th hu od (nI M) ti be clk) s.heap.size = A at hD hH ⊢
  have hA : ∀ q : Nat, s.heap.size ≤ q → A q := fun q h => by rw [← hAe]; exact Or.inr h
  have hS : va_S A s.heap s.heap [] := va_S.rf
  have hP : va_P (dC, dI) vwCl (wRo a cI cZ cD ki pl tu le ch ca (nI N) tk th hu od (nI M) ti be clk) s.heap := hP
  have hl := lv_entry ([.ref (a 0), .int x]) (n := 2) (Nat.le_of_ble_eq_true rfl)
  rw [lg_entry_eq]
  generalize (lg_sl ([.ref (a 0), .int x]) ++ List.replicate (2 - (lg_sl ([.ref (a 0), .int x])).length) Slot.unset).toArray = ls at hl ⊢
  have hl : lv_has ls 2 [(0, .ref (a 0)), (1, .int x)] := hl
  have hthk := hts (.classLink RX3 149 zx_I) (by decide +kernel)
  have hthi := hts (.initialized zx_I) (by decide +kernel)
  have hthw : ∀ w ∈ (vx_atS RX3 153 zx_I zx_N).filter goodWord, w.before _ s = true := fun w h => hts w ((by decide +kernel : ∀ w ∈ (vx_atS RX3 153 zx_I zx_N).filter goodWord, w ∈ wsX3_checkLamp) w h)
  have hf_10 := hts (.fieldLink RX3 10 "LampRoom" "lamps" "LLampRoom$Lamps;") (by decide +kernel)
  have hin_3 : ∀ w ∈ wsX30, w ∈ wsX3_checkLamp := by decide +kernel
  refine lv_iload_n hx hb dX3_checkLamp_0 rfl (lv_at hl 1 rfl) ?_
  refine lv_if_lt (tgt := 15) hx hb dX3_checkLamp_1 (by decide) (fun c_0 => ?_) (fun c_0 => ?_)
  · obtain ⟨sa, hsa⟩ := hE.2.2.2.2.2.2.2.2.1
    exact vw_throwS (A := A) (text := "there is no such lamp") (names := zx_N) hx hb hl0 hown (by decide +kernel) (by decide +kernel) hthk hthi hsa (zx_hatI hthw hE) zx_goodI hH.1 hH.2 hS (hl.1.trans hml.symm) dX3_checkLamp_15 dX3_checkLamp_18 dX3_checkLamp_19 dX3_checkLamp_21 dX3_checkLamp_24 (fun x hx => (hno x hx).elim) (Nat.le_of_ble_eq_true rfl) (Nat.le_of_ble_eq_true rfl) (Nat.le_of_ble_eq_true rfl) (Nat.le_of_ble_eq_true rfl) hlocks (zx_thrown hP hK hD hS) hS.2.2 (Nat.le_of_ble_eq_true rfl) (Nat.le_of_ble_eq_true rfl)
  · refine lv_iload_n hx hb dX3_checkLamp_4 rfl (lv_at hl 1 rfl) ?_
    refine lv_aload_n hx hb dX3_checkLamp_5 rfl (lv_at hl 0 rfl) ?_
    refine va_get (D := (dC, dI)) (ci := 3) (v := .ref (a 1)) (C := RX3) (T := TX3) (N := 4) hx hb hts hin_3 hown hK hP 0 rfl rfl 0 (by decide) hf_10 (fun _ h9 => h9) rfl dX3_checkLamp_6 ?_
    refine zq_cVi (As := []) (rest := [.int x]) (wc := (wLa a cI cZ cD ki pl tu le ch ca (nI N))) (w1 := (wLa a cI cZ cD ki pl tu le ch ca (nI N))) (wr := ([wRm a clk] ++ (wTa a cI tk th hu od (nI M) ti ++ (wAl a cI be)) : va_W)) (ws' := (wRo a cI cZ cD ki pl tu le ch ca (nI N) tk th hu od (nI M) ti be clk)) ⟨hx, hb, hml, hown, hts⟩ (c_X1_size l dC dI a cI cZ cD ki pl tu le ch ca N (by omega) s.heap.size) (cwV 0 hts gX3_checkLamp_X1_size rfl rfl rfl (by decide +kernel) ⟨Nat.le_of_ble_eq_true rfl, Nat.le_of_ble_eq_true rfl⟩) hK hP hD hS hA [1, 2, 3, 4, 5, 6, 7] [0, 8, 9, 10, 11, 12, 13, 14] [0, 8, 9, 10, 11, 12, 13, 14, 1, 2, 3, 4, 5, 6, 7] rfl rfl rfl rfl (by decide) rfl rfl (ci := 1) rfl 0 rfl rfl hl.1 rfl (Nat.le_of_ble_eq_true rfl) dX3_checkLamp_9 ⟨Nat.zero_le _, Nat.zero_le _⟩ (fun H locs hP hD hS => ?_)
    refine lv_icmp_lt (tgt := 25) hx hb dX3_checkLamp_12 (by decide) (fun c_1 => ?_) (fun c_1 => ?_)
    · exact ((in_b_n (by omega) hx0).elim c_0 (fun h => h c_1)).elim
    · obtain ⟨sa, hsa⟩ := hE.2.2.2.2.2.2.2.2.1
      exact vw_throwS (A := A) (text := "there is no such lamp") (names := zx_N) hx hb hl0 hown (by decide +kernel) (by decide +kernel) hthk hthi hsa (zx_hatI hthw hE) zx_goodI hH.1 hH.2 hS (hl.1.trans hml.symm) dX3_checkLamp_15 dX3_checkLamp_18 dX3_checkLamp_19 dX3_checkLamp_21 dX3_checkLamp_24 (fun x hx => (hno x hx).elim) (Nat.le_of_ble_eq_true rfl) (Nat.le_of_ble_eq_true rfl) (Nat.le_of_ble_eq_true rfl) (Nat.le_of_ble_eq_true rfl) hlocks (zx_thrown hP hK hD hS) hS.2.2 (Nat.le_of_ble_eq_true rfl) (Nat.le_of_ble_eq_true rfl)
