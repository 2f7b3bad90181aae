set_option maxHeartbeats 4000000 in
set_option maxRecDepth 100000 in
theorem c_X3_beginAlarms (l : Launch) (dC : Nat → ClassId) (dI : Nat → Nat → Nat) (a : Nat → Nat) (cI cZ cD : ClassId) (ki pl tu le : Nat → Int32) (ch ca : Nat → UInt64) (N : Nat) (tk th hu od : Nat → Int32) (M : Nat) (ti : Int32) (be : Nat → Int32) (clk : Int32) (hN : N ≤ 40) (hM : M ≤ 30) (mi : Nat) (hm : mi < M) (j : Nat) (hj : j < N) (sz : Nat) : zq_Mi l yX3_beginAlarms wsX3_beginAlarms ({ frames := 1, cells := 0, slots := 0, locals := 24 } : Room) (dC, dI) (zq_T cI cZ cD) [.ref (a 0), .int (nI mi), .int (nI j)] (wRo a cI cZ cD ki pl tu le ch ca (nI N) tk th hu od (nI M) ti be clk) (nI (pb_2 hu ch be clk j mi).2) (wRo a cI cZ cD ki pl tu le ch ca (nI N) tk th hu od (nI M) ti ((pb_2 hu ch be clk j mi).1) clk) sz := by
  refine Met.ofW (cc := cX3_beginAlarms) (maxL := 4) (ret := (some .int)) (by decide) rfl ?_
  intro p e s m args below meth c s₁ B hml hv
  obtain ⟨rfl, hsz, hP, hK, hD0⟩ := hv
  have hx := B.exec
  have hb := B.bytes
  have hr := B.returns
  have hts := atoms_spec (ws := wsX3_beginAlarms) B.pre
  have hown : s.vm.findClass RX3 = some m.cls := findClass_of_methodNamed B.named
  have hlocks := B.notSynchronized
  subst hsz
  have hD := hD0.self (sz := s.heap.size)
  generalize hAe : va_A (wRo a cI cZ cD ki pl tu le ch ca (nI N) tk th hu od (nI M) ti be clk) s.heap.size = A at hD ⊢
  have hA : ∀ q : Nat, s.heap.size ≤ q → A q := fun q h => by rw [← hAe]; exact Or.inr h
  have hS : va_S A s.heap s.heap [] := va_S.rf
  have hP : va_P (dC, dI) vwCl (wRo a cI cZ cD ki pl tu le ch ca (nI N) tk th hu od (nI M) ti be clk) s.heap := hP
  have hl := lv_entry ([.ref (a 0), .int (nI mi), .int (nI j)]) (n := 4) (Nat.le_of_ble_eq_true rfl)
  rw [lg_entry_eq]
  generalize (lg_sl ([.ref (a 0), .int (nI mi), .int (nI j)]) ++ List.replicate (4 - (lg_sl ([.ref (a 0), .int (nI mi), .int (nI j)])).length) Slot.unset).toArray = ls at hl ⊢
  have hl : lv_has ls 4 [(0, .ref (a 0)), (1, .int (nI mi)), (2, .int (nI j))] := hl
  have hf_30 := hts (.fieldLink RX3 30 "LampRoom" "clock" "I") (by decide +kernel)
  have hin_3 : ∀ w ∈ wsX30, w ∈ wsX3_beginAlarms := by decide +kernel
  have hf_19 := hts (.fieldLink RX3 19 "LampRoom" "tallies" "LLampRoom$Tallies;") (by decide +kernel)
  have hf_10 := hts (.fieldLink RX3 10 "LampRoom" "lamps" "LLampRoom$Lamps;") (by decide +kernel)
  have hf_26 := hts (.fieldLink RX3 26 "LampRoom" "alarms" "LLampRoom$Alarms;") (by decide +kernel)
  refine lv_iconst (v := 0) hx hb dX3_beginAlarms_0 (by decide) ?_
  refine lv_istore_n (lv' := [(3, .int 0), (0, .ref (a 0)), (1, .int (nI mi)), (2, .int (nI j))]) hx hb dX3_beginAlarms_1 rfl hl (by decide) rfl (fun ls hl => ?_)
  refine lv_aload_n hx hb dX3_beginAlarms_2 rfl (lv_at hl 1 rfl) ?_
  refine va_get (D := (dC, dI)) (ci := 3) (v := .int clk) (C := RX3) (T := TX3) (N := 4) hx hb hts hin_3 hown hK hP 0 rfl rfl 3 (by decide) hf_30 (fun _ h9 => h9) rfl dX3_beginAlarms_3 ?_
  refine lv_aload_n hx hb dX3_beginAlarms_6 rfl (lv_at hl 1 rfl) ?_
  refine va_get (D := (dC, dI)) (ci := 3) (v := .ref (a 8)) (C := RX3) (T := TX3) (N := 4) hx hb hts hin_3 hown hK hP 0 rfl rfl 1 (by decide) hf_19 (fun _ h9 => h9) rfl dX3_beginAlarms_7 ?_
  refine lv_iload_n hx hb dX3_beginAlarms_10 rfl (lv_at hl 2 rfl) ?_
  refine zq_cVi (As := [.int (nI mi)]) (rest := [.int clk]) (wc := (wTa a cI tk th hu od (nI M) ti)) (w1 := (wTa a cI tk th hu od (nI M) ti)) (wr := ([wRm a clk] ++ (wLa a cI cZ cD ki pl tu le ch ca (nI N) ++ (wAl a cI be)) : va_W)) (ws' := (wRo a cI cZ cD ki pl tu le ch ca (nI N) tk th hu od (nI M) ti be clk)) ⟨hx, hb, hml, hown, hts⟩ (c_X2_hungAt l dC dI a cI cZ cD tk th hu od M ti (by omega) mi (by omega) s.heap.size) (cwV 1 hts gX3_beginAlarms_X2_hungAt rfl rfl rfl (by decide +kernel) ⟨Nat.le_of_ble_eq_true rfl, Nat.le_of_ble_eq_true rfl⟩) hK hP hD hS hA [8, 9, 10, 11, 12] [0, 1, 2, 3, 4, 5, 6, 7, 13, 14] [0, 1, 2, 3, 4, 5, 6, 7, 10, 11, 12, 13, 14, 8, 9] rfl rfl rfl rfl (by decide) rfl rfl (ci := 2) rfl 0 rfl rfl hl.1 rfl (Nat.le_of_ble_eq_true rfl) dX3_beginAlarms_11 ⟨Nat.zero_le _, Nat.zero_le _⟩ (fun H locs hP hD hS => ?_)
  refine t_isub hx hb dX3_beginAlarms_14 (v := clk - (hu mi)) (rfl) ?_
  refine lv_bipush (v := 9) hx hb dX3_beginAlarms_15 (by decide) ?_
  refine lv_icmp_le (tgt := 39) hx hb dX3_beginAlarms_17 (by decide) (fun c_0 => ?_) (fun c_0 => ?_)
  · have hB_1 : la_lt9 clk (hu mi) = false := by simp [la_lt9, c_0]
    refine lv_aload_n hx hb dX3_beginAlarms_39 rfl (lv_at hl 1 rfl) ?_
    refine va_get (D := (dC, dI)) (ci := 3) (v := .ref (a 1)) (C := RX3) (T := TX3) (N := 4) hx hb hts hin_3 hown hK hP 0 rfl rfl 0 (by decide) hf_10 (fun _ h9 => h9) rfl dX3_beginAlarms_40 ?_
    refine lv_iload_n hx hb dX3_beginAlarms_43 rfl (lv_at hl 3 rfl) ?_
    refine zq_cVd (As := [.int (nI j)]) (rest := []) (wc := (wLa a cI cZ cD ki pl tu le ch ca (nI N))) (w1 := (wLa a cI cZ cD ki pl tu le ch ca (nI N))) (wr := ([wRm a clk] ++ (wTa a cI tk th hu od (nI M) ti ++ (wAl a cI be)) : va_W)) (ws' := (wRo a cI cZ cD ki pl tu le ch ca (nI N) tk th hu od (nI M) ti be clk)) ⟨hx, hb, hml, hown, hts⟩ (c_X1_chargeAt l dC dI a cI cZ cD ki pl tu le ch ca N (by omega) j (by omega) H.size) (cwV 1 hts gX3_beginAlarms_X1_chargeAt rfl rfl rfl (by decide +kernel) ⟨Nat.le_of_ble_eq_true rfl, Nat.le_of_ble_eq_true rfl⟩) hK hP hD hS hA [1, 2, 3, 4, 5, 6, 7] [0, 8, 9, 10, 11, 12, 13, 14] [0, 8, 9, 10, 11, 12, 13, 14, 1, 2, 3, 4, 5, 6, 7] rfl rfl rfl rfl (by decide) rfl rfl (ci := 1) rfl 0 rfl rfl hl.1 rfl (Nat.le_of_ble_eq_true rfl) dX3_beginAlarms_44 ⟨Nat.zero_le _, Nat.zero_le _⟩ (fun H locs hP hD hS => ?_)
    refine zq_dconst0 hx hb dX3_beginAlarms_47 ?_
    refine lv_dcmp hx hb dX3_beginAlarms_48 ?_
    refine lv_if_gt (tgt := 71) hx hb dX3_beginAlarms_49 (by decide) (fun c_2 => ?_) (fun c_2 => ?_)
    · have hD_3 : la_dkc (ch j) = false := by simp [la_dkc, c_2]
      refine lv_iload_n hx hb dX3_beginAlarms_71 rfl (lv_at hl 0 rfl) ?_
      have e_4 : ((pb_2 hu ch be clk j mi).1) = be := by first | (simp only [pb_2, hB_1, ba_f, hD_3, ba_f]; done) | (simp only [pb_2, hB_1, ba_f, hD_3, ba_f]; rfl)
      exact W.iret (v := 0) hx hb hr (zq_qi (by first | (simp only [pb_2, hB_1, ba_f, hD_3, ba_f]; done) | (simp only [pb_2, hB_1, ba_f, hD_3, ba_f]; rfl)) (by rw [e_4]; exact hP) hK (by rw [e_4]; exact hD) hS) hS.2.2 dX3_beginAlarms_72
    · have hD_5 : la_dkc (ch j) = true := by simp [la_dkc, c_2]
      refine lv_aload_n hx hb dX3_beginAlarms_52 rfl (lv_at hl 1 rfl) ?_
      refine va_get (D := (dC, dI)) (ci := 3) (v := .ref (a 13)) (C := RX3) (T := TX3) (N := 4) hx hb hts hin_3 hown hK hP 0 rfl rfl 2 (by decide) hf_26 (fun _ h9 => h9) rfl dX3_beginAlarms_53 ?_
      refine lv_iload_n hx hb dX3_beginAlarms_56 rfl (lv_at hl 2 rfl) ?_
      refine lv_iconst (v := 1) hx hb dX3_beginAlarms_57 (by decide) ?_
      refine lv_aload_n hx hb dX3_beginAlarms_58 rfl (lv_at hl 1 rfl) ?_
      refine va_get (D := (dC, dI)) (ci := 3) (v := .int clk) (C := RX3) (T := TX3) (N := 4) hx hb hts hin_3 hown hK hP 0 rfl rfl 3 (by decide) hf_30 (fun _ h9 => h9) rfl dX3_beginAlarms_59 ?_
      refine zq_cVi (As := [.int (nI mi), .int 1, .int clk]) (rest := []) (wc := (wAl a cI be)) (w1 := (wAl a cI ((ba_k true be (2 * mi + 1) clk).1))) (wr := ([wRm a clk] ++ (wLa a cI cZ cD ki pl tu le ch ca (nI N) ++ (wTa a cI tk th hu od (nI M) ti)) : va_W)) (ws' := (wRo a cI cZ cD ki pl tu le ch ca (nI N) tk th hu od (nI M) ti ((ba_k true be (2 * mi + 1) clk).1) clk)) ⟨hx, hb, hml, hown, hts⟩ (c_X0_begin l dC dI a cI cZ cD be mi 1 clk (by omega) (by omega) H.size) (cwV 3 hts gX3_beginAlarms_X0_begin rfl rfl rfl (by decide +kernel) ⟨Nat.le_of_ble_eq_true rfl, Nat.le_of_ble_eq_true rfl⟩) hK hP hD hS hA [13, 14] [0, 1, 2, 3, 4, 5, 6, 7, 8, 9, 10, 11, 12] [0, 1, 2, 3, 4, 5, 6, 7, 8, 9, 10, 11, 12, 13, 14] rfl rfl rfl rfl (by decide) rfl rfl (ci := 0) rfl 0 rfl rfl hl.1 rfl (Nat.le_of_ble_eq_true rfl) dX3_beginAlarms_62 ⟨Nat.zero_le _, Nat.zero_le _⟩ (fun H locs hP hD hS => ?_)
      refine lv_if_eq (tgt := 71) hx hb dX3_beginAlarms_65 (by decide) (fun c_6 => ?_) (fun c_6 => ?_)
      · have d_6 := zb_eq c_6
        refine lv_iload_n hx hb dX3_beginAlarms_71 rfl (lv_at hl 0 rfl) ?_
        have e_7 : ((pb_2 hu ch be clk j mi).1) = ((ba_k true be (2 * mi + 1) clk).1) := by first | (simp only [pb_2, hB_1, ba_f, hD_5, ba_n0 d_6]; done) | (simp only [pb_2, hB_1, ba_f, hD_5, ba_n0 d_6]; rfl)
        exact W.iret (v := 0) hx hb hr (zq_qi (by first | (simp only [pb_2, hB_1, ba_f, hD_5, ba_n0 d_6]; done) | (simp only [pb_2, hB_1, ba_f, hD_5, ba_n0 d_6]; rfl)) (by rw [e_7]; exact hP) hK (by rw [e_7]; exact hD) hS) hS.2.2 dX3_beginAlarms_72
      · have d_6 := zb_ne c_6
        refine lv_iinc (v := 1) (lv' := [(3, .int 1), (0, .ref (a 0)), (1, .int (nI mi)), (2, .int (nI j))]) hx hb dX3_beginAlarms_68 hl (k := 0) rfl (rfl) (by decide) rfl (fun ls hl => ?_)
        refine lv_iload_n hx hb dX3_beginAlarms_71 rfl (lv_at hl 0 rfl) ?_
        have e_8 : ((pb_2 hu ch be clk j mi).1) = ((ba_k true be (2 * mi + 1) clk).1) := by first | (simp only [pb_2, hB_1, ba_f, hD_5, ba_n1 d_6]; done) | (simp only [pb_2, hB_1, ba_f, hD_5, ba_n1 d_6]; rfl)
        exact W.iret (v := 1) hx hb hr (zq_qi (by first | (simp only [pb_2, hB_1, ba_f, hD_5, ba_n1 d_6]; done) | (simp only [pb_2, hB_1, ba_f, hD_5, ba_n1 d_6]; rfl)) (by rw [e_8]; exact hP) hK (by rw [e_8]; exact hD) hS) hS.2.2 dX3_beginAlarms_72
  · have hB_9 : la_lt9 clk (hu mi) = true := by simp [la_lt9, c_0]
    refine lv_aload_n hx hb dX3_beginAlarms_20 rfl (lv_at hl 1 rfl) ?_
    refine va_get (D := (dC, dI)) (ci := 3) (v := .ref (a 13)) (C := RX3) (T := TX3) (N := 4) hx hb hts hin_3 hown hK hP 0 rfl rfl 2 (by decide) hf_26 (fun _ h9 => h9) rfl dX3_beginAlarms_21 ?_
    refine lv_iload_n hx hb dX3_beginAlarms_24 rfl (lv_at hl 2 rfl) ?_
    refine lv_iconst (v := 0) hx hb dX3_beginAlarms_25 (by decide) ?_
    refine lv_aload_n hx hb dX3_beginAlarms_26 rfl (lv_at hl 1 rfl) ?_
    refine va_get (D := (dC, dI)) (ci := 3) (v := .int clk) (C := RX3) (T := TX3) (N := 4) hx hb hts hin_3 hown hK hP 0 rfl rfl 3 (by decide) hf_30 (fun _ h9 => h9) rfl dX3_beginAlarms_27 ?_
    refine zq_cVi (As := [.int (nI mi), .int 0, .int clk]) (rest := []) (wc := (wAl a cI be)) (w1 := (wAl a cI ((ba_k true be (2 * mi + 0) clk).1))) (wr := ([wRm a clk] ++ (wLa a cI cZ cD ki pl tu le ch ca (nI N) ++ (wTa a cI tk th hu od (nI M) ti)) : va_W)) (ws' := (wRo a cI cZ cD ki pl tu le ch ca (nI N) tk th hu od (nI M) ti ((ba_k true be (2 * mi + 0) clk).1) clk)) ⟨hx, hb, hml, hown, hts⟩ (c_X0_begin l dC dI a cI cZ cD be mi 0 clk (by omega) (by omega) H.size) (cwV 3 hts gX3_beginAlarms_X0_begin rfl rfl rfl (by decide +kernel) ⟨Nat.le_of_ble_eq_true rfl, Nat.le_of_ble_eq_true rfl⟩) hK hP hD hS hA [13, 14] [0, 1, 2, 3, 4, 5, 6, 7, 8, 9, 10, 11, 12] [0, 1, 2, 3, 4, 5, 6, 7, 8, 9, 10, 11, 12, 13, 14] rfl rfl rfl rfl (by decide) rfl rfl (ci := 0) rfl 0 rfl rfl hl.1 rfl (Nat.le_of_ble_eq_true rfl) dX3_beginAlarms_30 ⟨Nat.zero_le _, Nat.zero_le _⟩ (fun H locs hP hD hS => ?_)
    refine lv_if_eq (tgt := 39) hx hb dX3_beginAlarms_33 (by decide) (fun c_10 => ?_) (fun c_10 => ?_)
    · have d_10 := zb_eq c_10
      refine lv_aload_n hx hb dX3_beginAlarms_39 rfl (lv_at hl 1 rfl) ?_
      refine va_get (D := (dC, dI)) (ci := 3) (v := .ref (a 1)) (C := RX3) (T := TX3) (N := 4) hx hb hts hin_3 hown hK hP 0 rfl rfl 0 (by decide) hf_10 (fun _ h9 => h9) rfl dX3_beginAlarms_40 ?_
      refine lv_iload_n hx hb dX3_beginAlarms_43 rfl (lv_at hl 3 rfl) ?_
      refine zq_cVd (As := [.int (nI j)]) (rest := []) (wc := (wLa a cI cZ cD ki pl tu le ch ca (nI N))) (w1 := (wLa a cI cZ cD ki pl tu le ch ca (nI N))) (wr := ([wRm a clk] ++ (wTa a cI tk th hu od (nI M) ti ++ (wAl a cI ((ba_k true be (2 * mi + 0) clk).1))) : va_W)) (ws' := (wRo a cI cZ cD ki pl tu le ch ca (nI N) tk th hu od (nI M) ti ((ba_k true be (2 * mi + 0) clk).1) clk)) ⟨hx, hb, hml, hown, hts⟩ (c_X1_chargeAt l dC dI a cI cZ cD ki pl tu le ch ca N (by omega) j (by omega) H.size) (cwV 1 hts gX3_beginAlarms_X1_chargeAt rfl rfl rfl (by decide +kernel) ⟨Nat.le_of_ble_eq_true rfl, Nat.le_of_ble_eq_true rfl⟩) hK hP hD hS hA [1, 2, 3, 4, 5, 6, 7] [0, 8, 9, 10, 11, 12, 13, 14] [0, 8, 9, 10, 11, 12, 13, 14, 1, 2, 3, 4, 5, 6, 7] rfl rfl rfl rfl (by decide) rfl rfl (ci := 1) rfl 0 rfl rfl hl.1 rfl (Nat.le_of_ble_eq_true rfl) dX3_beginAlarms_44 ⟨Nat.zero_le _, Nat.zero_le _⟩ (fun H locs hP hD hS => ?_)
      refine zq_dconst0 hx hb dX3_beginAlarms_47 ?_
      refine lv_dcmp hx hb dX3_beginAlarms_48 ?_
      refine lv_if_gt (tgt := 71) hx hb dX3_beginAlarms_49 (by decide) (fun c_11 => ?_) (fun c_11 => ?_)
      · have hD_12 : la_dkc (ch j) = false := by simp [la_dkc, c_11]
        refine lv_iload_n hx hb dX3_beginAlarms_71 rfl (lv_at hl 0 rfl) ?_
        have e_13 : ((pb_2 hu ch be clk j mi).1) = ((ba_k true be (2 * mi + 0) clk).1) := by first | (simp only [pb_2, hB_9, ba_n0 d_10, hD_12, ba_f]; done) | (simp only [pb_2, hB_9, ba_n0 d_10, hD_12, ba_f]; rfl)
        exact W.iret (v := 0) hx hb hr (zq_qi (by first | (simp only [pb_2, hB_9, ba_n0 d_10, hD_12, ba_f]; done) | (simp only [pb_2, hB_9, ba_n0 d_10, hD_12, ba_f]; rfl)) (by rw [e_13]; exact hP) hK (by rw [e_13]; exact hD) hS) hS.2.2 dX3_beginAlarms_72
      · have hD_14 : la_dkc (ch j) = true := by simp [la_dkc, c_11]
        refine lv_aload_n hx hb dX3_beginAlarms_52 rfl (lv_at hl 1 rfl) ?_
        refine va_get (D := (dC, dI)) (ci := 3) (v := .ref (a 13)) (C := RX3) (T := TX3) (N := 4) hx hb hts hin_3 hown hK hP 0 rfl rfl 2 (by decide) hf_26 (fun _ h9 => h9) rfl dX3_beginAlarms_53 ?_
        refine lv_iload_n hx hb dX3_beginAlarms_56 rfl (lv_at hl 2 rfl) ?_
        refine lv_iconst (v := 1) hx hb dX3_beginAlarms_57 (by decide) ?_
        refine lv_aload_n hx hb dX3_beginAlarms_58 rfl (lv_at hl 1 rfl) ?_
        refine va_get (D := (dC, dI)) (ci := 3) (v := .int clk) (C := RX3) (T := TX3) (N := 4) hx hb hts hin_3 hown hK hP 0 rfl rfl 3 (by decide) hf_30 (fun _ h9 => h9) rfl dX3_beginAlarms_59 ?_
        refine zq_cVi (As := [.int (nI mi), .int 1, .int clk]) (rest := []) (wc := (wAl a cI ((ba_k true be (2 * mi + 0) clk).1))) (w1 := (wAl a cI ((ba_k true ((ba_k true be (2 * mi + 0) clk).1) (2 * mi + 1) clk).1))) (wr := ([wRm a clk] ++ (wLa a cI cZ cD ki pl tu le ch ca (nI N) ++ (wTa a cI tk th hu od (nI M) ti)) : va_W)) (ws' := (wRo a cI cZ cD ki pl tu le ch ca (nI N) tk th hu od (nI M) ti ((ba_k true ((ba_k true be (2 * mi + 0) clk).1) (2 * mi + 1) clk).1) clk)) ⟨hx, hb, hml, hown, hts⟩ (c_X0_begin l dC dI a cI cZ cD ((ba_k true be (2 * mi + 0) clk).1) mi 1 clk (by omega) (by omega) H.size) (cwV 3 hts gX3_beginAlarms_X0_begin rfl rfl rfl (by decide +kernel) ⟨Nat.le_of_ble_eq_true rfl, Nat.le_of_ble_eq_true rfl⟩) hK hP hD hS hA [13, 14] [0, 1, 2, 3, 4, 5, 6, 7, 8, 9, 10, 11, 12] [0, 1, 2, 3, 4, 5, 6, 7, 8, 9, 10, 11, 12, 13, 14] rfl rfl rfl rfl (by decide) rfl rfl (ci := 0) rfl 0 rfl rfl hl.1 rfl (Nat.le_of_ble_eq_true rfl) dX3_beginAlarms_62 ⟨Nat.zero_le _, Nat.zero_le _⟩ (fun H locs hP hD hS => ?_)
        refine lv_if_eq (tgt := 71) hx hb dX3_beginAlarms_65 (by decide) (fun c_15 => ?_) (fun c_15 => ?_)
        · have d_15 := zb_eq c_15
          refine lv_iload_n hx hb dX3_beginAlarms_71 rfl (lv_at hl 0 rfl) ?_
          have e_16 : ((pb_2 hu ch be clk j mi).1) = ((ba_k true ((ba_k true be (2 * mi + 0) clk).1) (2 * mi + 1) clk).1) := by first | (simp only [pb_2, hB_9, ba_n0 d_10, hD_14, ba_n0 d_15]; done) | (simp only [pb_2, hB_9, ba_n0 d_10, hD_14, ba_n0 d_15]; rfl)
          exact W.iret (v := 0) hx hb hr (zq_qi (by first | (simp only [pb_2, hB_9, ba_n0 d_10, hD_14, ba_n0 d_15]; done) | (simp only [pb_2, hB_9, ba_n0 d_10, hD_14, ba_n0 d_15]; rfl)) (by rw [e_16]; exact hP) hK (by rw [e_16]; exact hD) hS) hS.2.2 dX3_beginAlarms_72
        · have d_15 := zb_ne c_15
          refine lv_iinc (v := 1) (lv' := [(3, .int 1), (0, .ref (a 0)), (1, .int (nI mi)), (2, .int (nI j))]) hx hb dX3_beginAlarms_68 hl (k := 0) rfl (rfl) (by decide) rfl (fun ls hl => ?_)
          refine lv_iload_n hx hb dX3_beginAlarms_71 rfl (lv_at hl 0 rfl) ?_
          have e_17 : ((pb_2 hu ch be clk j mi).1) = ((ba_k true ((ba_k true be (2 * mi + 0) clk).1) (2 * mi + 1) clk).1) := by first | (simp only [pb_2, hB_9, ba_n0 d_10, hD_14, ba_n1 d_15]; done) | (simp only [pb_2, hB_9, ba_n0 d_10, hD_14, ba_n1 d_15]; rfl)
          exact W.iret (v := 1) hx hb hr (zq_qi (by first | (simp only [pb_2, hB_9, ba_n0 d_10, hD_14, ba_n1 d_15]; done) | (simp only [pb_2, hB_9, ba_n0 d_10, hD_14, ba_n1 d_15]; rfl)) (by rw [e_17]; exact hP) hK (by rw [e_17]; exact hD) hS) hS.2.2 dX3_beginAlarms_72
    · have d_10 := zb_ne c_10
      refine lv_iinc (v := 1) (lv' := [(3, .int 1), (0, .ref (a 0)), (1, .int (nI mi)), (2, .int (nI j))]) hx hb dX3_beginAlarms_36 hl (k := 0) rfl (rfl) (by decide) rfl (fun ls hl => ?_)
      refine lv_aload_n hx hb dX3_beginAlarms_39 rfl (lv_at hl 1 rfl) ?_
      refine va_get (D := (dC, dI)) (ci := 3) (v := .ref (a 1)) (C := RX3) (T := TX3) (N := 4) hx hb hts hin_3 hown hK hP 0 rfl rfl 0 (by decide) hf_10 (fun _ h9 => h9) rfl dX3_beginAlarms_40 ?_
      refine lv_iload_n hx hb dX3_beginAlarms_43 rfl (lv_at hl 3 rfl) ?_
      refine zq_cVd (As := [.int (nI j)]) (rest := []) (wc := (wLa a cI cZ cD ki pl tu le ch ca (nI N))) (w1 := (wLa a cI cZ cD ki pl tu le ch ca (nI N))) (wr := ([wRm a clk] ++ (wTa a cI tk th hu od (nI M) ti ++ (wAl a cI ((ba_k true be (2 * mi + 0) clk).1))) : va_W)) (ws' := (wRo a cI cZ cD ki pl tu le ch ca (nI N) tk th hu od (nI M) ti ((ba_k true be (2 * mi + 0) clk).1) clk)) ⟨hx, hb, hml, hown, hts⟩ (c_X1_chargeAt l dC dI a cI cZ cD ki pl tu le ch ca N (by omega) j (by omega) H.size) (cwV 1 hts gX3_beginAlarms_X1_chargeAt rfl rfl rfl (by decide +kernel) ⟨Nat.le_of_ble_eq_true rfl, Nat.le_of_ble_eq_true rfl⟩) hK hP hD hS hA [1, 2, 3, 4, 5, 6, 7] [0, 8, 9, 10, 11, 12, 13, 14] [0, 8, 9, 10, 11, 12, 13, 14, 1, 2, 3, 4, 5, 6, 7] rfl rfl rfl rfl (by decide) rfl rfl (ci := 1) rfl 0 rfl rfl hl.1 rfl (Nat.le_of_ble_eq_true rfl) dX3_beginAlarms_44 ⟨Nat.zero_le _, Nat.zero_le _⟩ (fun H locs hP hD hS => ?_)
      refine zq_dconst0 hx hb dX3_beginAlarms_47 ?_
      refine lv_dcmp hx hb dX3_beginAlarms_48 ?_
      refine lv_if_gt (tgt := 71) hx hb dX3_beginAlarms_49 (by decide) (fun c_18 => ?_) (fun c_18 => ?_)
      · have hD_19 : la_dkc (ch j) = false := by simp [la_dkc, c_18]
        refine lv_iload_n hx hb dX3_beginAlarms_71 rfl (lv_at hl 0 rfl) ?_
        have e_20 : ((pb_2 hu ch be clk j mi).1) = ((ba_k true be (2 * mi + 0) clk).1) := by first | (simp only [pb_2, hB_9, ba_n1 d_10, hD_19, ba_f]; done) | (simp only [pb_2, hB_9, ba_n1 d_10, hD_19, ba_f]; rfl)
        exact W.iret (v := 1) hx hb hr (zq_qi (by first | (simp only [pb_2, hB_9, ba_n1 d_10, hD_19, ba_f]; done) | (simp only [pb_2, hB_9, ba_n1 d_10, hD_19, ba_f]; rfl)) (by rw [e_20]; exact hP) hK (by rw [e_20]; exact hD) hS) hS.2.2 dX3_beginAlarms_72
      · have hD_21 : la_dkc (ch j) = true := by simp [la_dkc, c_18]
        refine lv_aload_n hx hb dX3_beginAlarms_52 rfl (lv_at hl 1 rfl) ?_
        refine va_get (D := (dC, dI)) (ci := 3) (v := .ref (a 13)) (C := RX3) (T := TX3) (N := 4) hx hb hts hin_3 hown hK hP 0 rfl rfl 2 (by decide) hf_26 (fun _ h9 => h9) rfl dX3_beginAlarms_53 ?_
        refine lv_iload_n hx hb dX3_beginAlarms_56 rfl (lv_at hl 2 rfl) ?_
        refine lv_iconst (v := 1) hx hb dX3_beginAlarms_57 (by decide) ?_
        refine lv_aload_n hx hb dX3_beginAlarms_58 rfl (lv_at hl 1 rfl) ?_
        refine va_get (D := (dC, dI)) (ci := 3) (v := .int clk) (C := RX3) (T := TX3) (N := 4) hx hb hts hin_3 hown hK hP 0 rfl rfl 3 (by decide) hf_30 (fun _ h9 => h9) rfl dX3_beginAlarms_59 ?_
        refine zq_cVi (As := [.int (nI mi), .int 1, .int clk]) (rest := []) (wc := (wAl a cI ((ba_k true be (2 * mi + 0) clk).1))) (w1 := (wAl a cI ((ba_k true ((ba_k true be (2 * mi + 0) clk).1) (2 * mi + 1) clk).1))) (wr := ([wRm a clk] ++ (wLa a cI cZ cD ki pl tu le ch ca (nI N) ++ (wTa a cI tk th hu od (nI M) ti)) : va_W)) (ws' := (wRo a cI cZ cD ki pl tu le ch ca (nI N) tk th hu od (nI M) ti ((ba_k true ((ba_k true be (2 * mi + 0) clk).1) (2 * mi + 1) clk).1) clk)) ⟨hx, hb, hml, hown, hts⟩ (c_X0_begin l dC dI a cI cZ cD ((ba_k true be (2 * mi + 0) clk).1) mi 1 clk (by omega) (by omega) H.size) (cwV 3 hts gX3_beginAlarms_X0_begin rfl rfl rfl (by decide +kernel) ⟨Nat.le_of_ble_eq_true rfl, Nat.le_of_ble_eq_true rfl⟩) hK hP hD hS hA [13, 14] [0, 1, 2, 3, 4, 5, 6, 7, 8, 9, 10, 11, 12] [0, 1, 2, 3, 4, 5, 6, 7, 8, 9, 10, 11, 12, 13, 14] rfl rfl rfl rfl (by decide) rfl rfl (ci := 0) rfl 0 rfl rfl hl.1 rfl (Nat.le_of_ble_eq_true rfl) dX3_beginAlarms_62 ⟨Nat.zero_le _, Nat.zero_le _⟩ (fun H locs hP hD hS => ?_)
        refine lv_if_eq (tgt := 71) hx hb dX3_beginAlarms_65 (by decide) (fun c_22 => ?_) (fun c_22 => ?_)
        · have d_22 := zb_eq c_22
          refine lv_iload_n hx hb dX3_beginAlarms_71 rfl (lv_at hl 0 rfl) ?_
          have e_23 : ((pb_2 hu ch be clk j mi).1) = ((ba_k true ((ba_k true be (2 * mi + 0) clk).1) (2 * mi + 1) clk).1) := by first | (simp only [pb_2, hB_9, ba_n1 d_10, hD_21, ba_n0 d_22]; done) | (simp only [pb_2, hB_9, ba_n1 d_10, hD_21, ba_n0 d_22]; rfl)
          exact W.iret (v := 1) hx hb hr (zq_qi (by first | (simp only [pb_2, hB_9, ba_n1 d_10, hD_21, ba_n0 d_22]; done) | (simp only [pb_2, hB_9, ba_n1 d_10, hD_21, ba_n0 d_22]; rfl)) (by rw [e_23]; exact hP) hK (by rw [e_23]; exact hD) hS) hS.2.2 dX3_beginAlarms_72
        · have d_22 := zb_ne c_22
          refine lv_iinc (v := 2) (lv' := [(3, .int 2), (0, .ref (a 0)), (1, .int (nI mi)), (2, .int (nI j))]) hx hb dX3_beginAlarms_68 hl (k := 0) rfl (rfl) (by decide) rfl (fun ls hl => ?_)
          refine lv_iload_n hx hb dX3_beginAlarms_71 rfl (lv_at hl 0 rfl) ?_
          have e_24 : ((pb_2 hu ch be clk j mi).1) = ((ba_k true ((ba_k true be (2 * mi + 0) clk).1) (2 * mi + 1) clk).1) := by first | (simp only [pb_2, hB_9, ba_n1 d_10, hD_21, ba_n1 d_22]; done) | (simp only [pb_2, hB_9, ba_n1 d_10, hD_21, ba_n1 d_22]; rfl)
          exact W.iret (v := 2) hx hb hr (zq_qi (by first | (simp only [pb_2, hB_9, ba_n1 d_10, hD_21, ba_n1 d_22]; done) | (simp only [pb_2, hB_9, ba_n1 d_10, hD_21, ba_n1 d_22]; rfl)) (by rw [e_24]; exact hP) hK (by rw [e_24]; exact hD) hS) hS.2.2 dX3_beginAlarms_72

set_option maxHeartbeats 4000000 in
set_option maxRecDepth 100000 in
theorem c_X3_passHour (l : Launch) (dC : Nat → ClassId) (dI : Nat → Nat → Nat) (a : Nat → Nat) (cI cZ cD : ClassId) (ki pl tu le : Nat → Int32) (ch ca : Nat → UInt64) (N : Nat) (tk th hu od : Nat → Int32) (M : Nat) (ti : Int32) (be : Nat → Int32) (clk : Int32) (hN : N ≤ 40) (hM : M ≤ 30) (hp : ∀ i, i < 40 → zn_p (ch i)) (hc : ∀ i, i < 40 → zn_p (ca i)) (hlm : ∀ mi, mi < M → ¬ th mi = -1 → ∃ j, j < N ∧ th mi = nI j) (sz : Nat) : zq_Mi l yX3_passHour wsX3_passHour ({ frames := 2, cells := 0, slots := 0, locals := 47 } : Room) (dC, dI) (zq_T cI cZ cD) [.ref (a 0)] (wRo a cI cZ cD ki pl tu le ch ca (nI N) tk th hu od (nI M) ti be clk) (nI (pb_k th hu (la_hr pl le ch ca N) be (clk + 1) M).2) (wRo a cI cZ cD ki pl tu le (la_hr pl le ch ca N) ca (nI N) tk th hu od (nI M) ti ((pb_k th hu (la_hr pl le ch ca N) be (clk + 1) M).1) (clk + 1)) sz := by
  refine Met.ofW (cc := cX3_passHour) (maxL := 4) (ret := (some .int)) (by decide) rfl ?_
  intro p e s m args below meth c s₁ B hml hv
  obtain ⟨rfl, hsz, hP, hK, hD0⟩ := hv
  have hx := B.exec
  have hb := B.bytes
  have hr := B.returns
  have hts := atoms_spec (ws := wsX3_passHour) B.pre
  have hown : s.vm.findClass RX3 = some m.cls := findClass_of_methodNamed B.named
  have hlocks := B.notSynchronized
  subst hsz
  have hD := hD0.self (sz := s.heap.size)
  generalize hAe : va_A (wRo a cI cZ cD ki pl tu le ch ca (nI N) tk th hu od (nI M) ti be clk) s.heap.size = A at hD ⊢
  have hA : ∀ q : Nat, s.heap.size ≤ q → A q := fun q h => by rw [← hAe]; exact Or.inr h
  have hS : va_S A s.heap s.heap [] := va_S.rf
  have hP : va_P (dC, dI) vwCl (wRo a cI cZ cD ki pl tu le ch ca (nI N) tk th hu od (nI M) ti be clk) s.heap := hP
  have hl := lv_entry ([.ref (a 0)]) (n := 4) (Nat.le_of_ble_eq_true rfl)
  rw [lg_entry_eq]
  generalize (lg_sl ([.ref (a 0)]) ++ List.replicate (4 - (lg_sl ([.ref (a 0)])).length) Slot.unset).toArray = ls at hl ⊢
  have hl : lv_has ls 4 [(0, .ref (a 0))] := hl
  have hf_30 := hts (.fieldLink RX3 30 "LampRoom" "clock" "I") (by decide +kernel)
  have hin_3 : ∀ w ∈ wsX30, w ∈ wsX3_passHour := by decide +kernel
  have hf_10 := hts (.fieldLink RX3 10 "LampRoom" "lamps" "LLampRoom$Lamps;") (by decide +kernel)
  have hf_19 := hts (.fieldLink RX3 19 "LampRoom" "tallies" "LLampRoom$Tallies;") (by decide +kernel)
  refine lv_aload_n hx hb dX3_passHour_0 rfl (lv_at hl 0 rfl) ?_
  refine lv_dup hx hb dX3_passHour_1 rfl ?_
  refine va_get (D := (dC, dI)) (ci := 3) (v := .int clk) (C := RX3) (T := TX3) (N := 4) hx hb hts hin_3 hown hK hP 0 rfl rfl 3 (by decide) hf_30 (fun _ h9 => h9) rfl dX3_passHour_2 ?_
  refine lv_iconst (v := 1) hx hb dX3_passHour_5 (by decide) ?_
  refine t_iadd hx hb dX3_passHour_6 (v := clk + 1) (rfl) ?_
  refine va_put (D := (dC, dI)) (ci := 3) (v := .int (clk + 1)) (ty := .int) (C := RX3) (T := TX3) (N := 4) hx hb hts hin_3 tyX3 tyX3_ok nmX3 hown hK hP hD hS 0 rfl rfl 3 (by decide) hf_30 (fun _ h9 => h9) rfl (by decide +kernel) rfl rfl (Nat.le_of_ble_eq_true rfl) dX3_passHour_7 (fun H locs hP hD hS => ?_)
  have hP : va_P (dC, dI) vwCl (wRo a cI cZ cD ki pl tu le ch ca (nI N) tk th hu od (nI M) ti be (clk + 1)) H := hP
  have hD : va_D A (wRo a cI cZ cD ki pl tu le ch ca (nI N) tk th hu od (nI M) ti be (clk + 1)) := hD
  refine lv_aload_n hx hb dX3_passHour_10 rfl (lv_at hl 0 rfl) ?_
  refine va_get (D := (dC, dI)) (ci := 3) (v := .ref (a 1)) (C := RX3) (T := TX3) (N := 4) hx hb hts hin_3 hown hK hP 0 rfl rfl 0 (by decide) hf_10 (fun _ h9 => h9) rfl dX3_passHour_11 ?_
  refine zq_cVv (As := []) (rest := []) (wc := (wLa a cI cZ cD ki pl tu le ch ca (nI N))) (w1 := (wLa a cI cZ cD ki pl tu le (la_burn pl le ch N) ca (nI N))) (wr := ([wRm a (clk + 1)] ++ (wTa a cI tk th hu od (nI M) ti ++ (wAl a cI be)) : va_W)) (ws' := (wRo a cI cZ cD ki pl tu le (la_burn pl le ch N) ca (nI N) tk th hu od (nI M) ti be (clk + 1))) ⟨hx, hb, hml, hown, hts⟩ (c_X1_burn l dC dI a cI cZ cD ki pl tu le ch ca N (by omega) (hp) H.size) (cwV 0 hts gX3_passHour_X1_burn rfl rfl rfl (by decide +kernel) ⟨Nat.le_of_ble_eq_true rfl, Nat.le_of_ble_eq_true rfl⟩) hK hP hD hS hA [1, 2, 3, 4, 5, 6, 7] [0, 8, 9, 10, 11, 12, 13, 14] [0, 8, 9, 10, 11, 12, 13, 14, 1, 2, 3, 4, 5, 6, 7] rfl rfl rfl rfl (by decide) rfl rfl (ci := 1) rfl 0 rfl rfl hl.1 rfl (Nat.le_of_ble_eq_true rfl) dX3_passHour_14 ⟨Nat.zero_le _, Nat.zero_le _⟩ (fun H locs hP hD hS => ?_)
  refine lv_aload_n hx hb dX3_passHour_17 rfl (lv_at hl 0 rfl) ?_
  refine va_get (D := (dC, dI)) (ci := 3) (v := .ref (a 1)) (C := RX3) (T := TX3) (N := 4) hx hb hts hin_3 hown hK hP 0 rfl rfl 0 (by decide) hf_10 (fun _ h9 => h9) rfl dX3_passHour_18 ?_
  refine zq_cVv (As := []) (rest := []) (wc := (wLa a cI cZ cD ki pl tu le (la_burn pl le ch N) ca (nI N))) (w1 := (wLa a cI cZ cD ki pl tu le ((la_lo pl (la_burn pl le ch N) ca N).1) ca (nI N))) (wr := ([wRm a (clk + 1)] ++ (wTa a cI tk th hu od (nI M) ti ++ (wAl a cI be)) : va_W)) (ws' := (wRo a cI cZ cD ki pl tu le ((la_lo pl (la_burn pl le ch N) ca N).1) ca (nI N) tk th hu od (nI M) ti be (clk + 1))) ⟨hx, hb, hml, hown, hts⟩ (c_X1_load l dC dI a cI cZ cD ki pl tu le (la_burn pl le ch N) ca N (by omega) ((fun u hu => zn_burn hp N u hu)) (hc) H.size) (cwV 0 hts gX3_passHour_X1_load rfl rfl rfl (by decide +kernel) ⟨Nat.le_of_ble_eq_true rfl, Nat.le_of_ble_eq_true rfl⟩) hK hP hD hS hA [1, 2, 3, 4, 5, 6, 7] [0, 8, 9, 10, 11, 12, 13, 14] [0, 8, 9, 10, 11, 12, 13, 14, 1, 2, 3, 4, 5, 6, 7] rfl rfl rfl rfl (by decide) rfl rfl (ci := 1) rfl 0 rfl rfl hl.1 rfl (Nat.le_of_ble_eq_true rfl) dX3_passHour_21 ⟨Nat.zero_le _, Nat.zero_le _⟩ (fun H locs hP hD hS => ?_)
  have ech_0 : ((la_lo pl (la_burn pl le ch N) ca N).1) = (la_hr pl le ch ca N) := by rfl
  rw [ech_0] at hP hD
  refine lv_iconst (v := 0) hx hb dX3_passHour_24 (by decide) ?_
  refine lv_istore_n (lv' := [(1, .int 0), (0, .ref (a 0))]) hx hb dX3_passHour_25 rfl hl (by decide) rfl (fun ls hl => ?_)
  refine lv_iconst (v := 0) hx hb dX3_passHour_26 (by decide) ?_
  refine lv_istore_n (lv' := [(2, .int 0), (1, .int 0), (0, .ref (a 0))]) hx hb dX3_passHour_27 rfl hl (by decide) rfl (fun ls hl => ?_)
  refine zq_loop 28 M (fun i H locs ls => va_P (dC, dI) vwCl (wRo a cI cZ cD ki pl tu le (la_hr pl le ch ca N) ca (nI N) tk th hu od (nI M) ti ((pb_k th hu (la_hr pl le ch ca N) be (clk + 1) i).1) (clk + 1)) H ∧ va_D A (wRo a cI cZ cD ki pl tu le (la_hr pl le ch ca N) ca (nI N) tk th hu od (nI M) ti ((pb_k th hu (la_hr pl le ch ca N) be (clk + 1) i).1) (clk + 1)) ∧ va_S A s.heap H locs ∧ lv_has ls 4 [(1, .int (nI (pb_k th hu (la_hr pl le ch ca N) be (clk + 1) i).2)), (2, .int (nI i)), (0, .ref (a 0))]) ?_ 0 (by omega) _ _ _ ⟨hP, hD, hS, lv_sub hl [1, 0, 2] rfl⟩
  intro i hi_i ih_i H locs ls hh
  obtain ⟨hP, hD, hS, hl⟩ := hh
  refine lv_iload_n hx hb dX3_passHour_28 rfl (lv_at hl 1 rfl) ?_
  refine lv_aload_n hx hb dX3_passHour_29 rfl (lv_at hl 2 rfl) ?_
  refine va_get (D := (dC, dI)) (ci := 3) (v := .ref (a 8)) (C := RX3) (T := TX3) (N := 4) hx hb hts hin_3 hown hK hP 0 rfl rfl 1 (by decide) hf_19 (fun _ h9 => h9) rfl dX3_passHour_30 ?_
  refine zq_cVi (As := []) (rest := [.int (nI i)]) (wc := (wTa a cI tk th hu od (nI M) ti)) (w1 := (wTa a cI tk th hu od (nI M) ti)) (wr := ([wRm a (clk + 1)] ++ (wLa a cI cZ cD ki pl tu le (la_hr pl le ch ca N) ca (nI N) ++ (wAl a cI ((pb_k th hu (la_hr pl le ch ca N) be (clk + 1) i).1))) : va_W)) (ws' := (wRo a cI cZ cD ki pl tu le (la_hr pl le ch ca N) ca (nI N) tk th hu od (nI M) ti ((pb_k th hu (la_hr pl le ch ca N) be (clk + 1) i).1) (clk + 1))) ⟨hx, hb, hml, hown, hts⟩ (c_X2_size l dC dI a cI cZ cD tk th hu od M ti (by omega) H.size) (cwV 0 hts gX3_passHour_X2_size rfl rfl rfl (by decide +kernel) ⟨Nat.le_of_ble_eq_true rfl, Nat.le_of_ble_eq_true rfl⟩) hK hP hD hS hA [8, 9, 10, 11, 12] [0, 1, 2, 3, 4, 5, 6, 7, 13, 14] [0, 1, 2, 3, 4, 5, 6, 7, 10, 11, 12, 13, 14, 8, 9] rfl rfl rfl rfl (by decide) rfl rfl (ci := 2) rfl 0 rfl rfl hl.1 rfl (Nat.le_of_ble_eq_true rfl) dX3_passHour_33 ⟨Nat.zero_le _, Nat.zero_le _⟩ (fun H locs hP hD hS => ?_)
  refine lv_icmp_ge (tgt := 68) hx hb dX3_passHour_36 (by decide) (fun c_1 => ?_) (fun c_1 => ?_)
  · have d_1 := (nI_leI (a := M) (b := i) (by omega) (by omega)).mp c_1
    have ei_i : i = M := by omega
    refine lv_iload_n hx hb dX3_passHour_68 rfl (lv_at hl 0 rfl) ?_
    have e_2 : ((pb_k th hu (la_hr pl le ch ca N) be (clk + 1) M).1) = ((pb_k th hu (la_hr pl le ch ca N) be (clk + 1) i).1) := by first | with_reducible rfl | simp [d_1, ei_i]
    exact W.iret (v := nI (pb_k th hu (la_hr pl le ch ca N) be (clk + 1) i).2) hx hb hr (zq_qi (by first | with_reducible rfl | simp [d_1, ei_i]) (by rw [e_2]; exact hP) hK (by rw [e_2]; exact hD) hS) hS.2.2 dX3_passHour_69
  · have d_1 := Nat.not_le.mp (fun h => c_1 ((nI_leI (a := M) (b := i) (by omega) (by omega)).mpr h))
    refine lv_aload_n hx hb dX3_passHour_39 rfl (lv_at hl 2 rfl) ?_
    refine va_get (D := (dC, dI)) (ci := 3) (v := .ref (a 8)) (C := RX3) (T := TX3) (N := 4) hx hb hts hin_3 hown hK hP 0 rfl rfl 1 (by decide) hf_19 (fun _ h9 => h9) rfl dX3_passHour_40 ?_
    refine lv_iload_n hx hb dX3_passHour_43 rfl (lv_at hl 1 rfl) ?_
    refine zq_cVi (As := [.int (nI i)]) (rest := []) (wc := (wTa a cI tk th hu od (nI M) ti)) (w1 := (wTa a cI tk th hu od (nI M) ti)) (wr := ([wRm a (clk + 1)] ++ (wLa a cI cZ cD ki pl tu le (la_hr pl le ch ca N) ca (nI N) ++ (wAl a cI ((pb_k th hu (la_hr pl le ch ca N) be (clk + 1) i).1))) : va_W)) (ws' := (wRo a cI cZ cD ki pl tu le (la_hr pl le ch ca N) ca (nI N) tk th hu od (nI M) ti ((pb_k th hu (la_hr pl le ch ca N) be (clk + 1) i).1) (clk + 1))) ⟨hx, hb, hml, hown, hts⟩ (c_X2_lampHeld l dC dI a cI cZ cD tk th hu od M ti (by omega) i (by omega) H.size) (cwV 1 hts gX3_passHour_X2_lampHeld rfl rfl rfl (by decide +kernel) ⟨Nat.le_of_ble_eq_true rfl, Nat.le_of_ble_eq_true rfl⟩) hK hP hD hS hA [8, 9, 10, 11, 12] [0, 1, 2, 3, 4, 5, 6, 7, 13, 14] [0, 1, 2, 3, 4, 5, 6, 7, 10, 11, 12, 13, 14, 8, 9] rfl rfl rfl rfl (by decide) rfl rfl (ci := 2) rfl 0 rfl rfl hl.1 rfl (Nat.le_of_ble_eq_true rfl) dX3_passHour_44 ⟨Nat.zero_le _, Nat.zero_le _⟩ (fun H locs hP hD hS => ?_)
    refine lv_istore_n (lv' := [(3, .int (th i)), (1, .int (nI (pb_k th hu (la_hr pl le ch ca N) be (clk + 1) i).2)), (2, .int (nI i)), (0, .ref (a 0))]) hx hb dX3_passHour_47 rfl hl (by decide) rfl (fun ls hl => ?_)
    refine lv_iload_n hx hb dX3_passHour_48 rfl (lv_at hl 0 rfl) ?_
    refine lv_iconst (v := (-1)) hx hb dX3_passHour_49 (by decide) ?_
    refine lv_icmp_eq (tgt := 62) hx hb dX3_passHour_50 (by decide) (fun c_3 => ?_) (fun c_3 => ?_)
    · refine lv_iinc (v := nI (i + 1)) (lv' := [(2, .int (nI (i + 1))), (3, .int (th i)), (1, .int (nI (pb_k th hu (la_hr pl le ch ca N) be (clk + 1) i).2)), (0, .ref (a 0))]) hx hb dX3_passHour_62 hl (k := 2) rfl (nI_add _ 1) (by decide) rfl (fun ls hl => ?_)
      refine lv_goto (tgt := 28) hx hb dX3_passHour_65 (by decide) ?_
      have e_4 : ((pb_k th hu (la_hr pl le ch ca N) be (clk + 1) (i + 1)).1) = ((pb_k th hu (la_hr pl le ch ca N) be (clk + 1) i).1) := by rw [pb_k, if_pos c_3]
      have e_5 : (nI (pb_k th hu (la_hr pl le ch ca N) be (clk + 1) (i + 1)).2) = (nI (pb_k th hu (la_hr pl le ch ca N) be (clk + 1) i).2) := by rw [pb_k, if_pos c_3]
      exact ih_i _ _ _ (by omega) ⟨(by (try rw [e_4]); (try rw [e_5]); exact hP), (by (try rw [e_4]); (try rw [e_5]); exact hD), hS, (by (try rw [e_4]); (try rw [e_5]); exact lv_sub hl [2, 0, 3] rfl)⟩
    · refine lv_iload_n hx hb dX3_passHour_53 rfl (lv_at hl 1 rfl) ?_
      refine lv_aload_n hx hb dX3_passHour_54 rfl (lv_at hl 3 rfl) ?_
      refine lv_iload_n hx hb dX3_passHour_55 rfl (lv_at hl 2 rfl) ?_
      refine lv_iload_n hx hb dX3_passHour_56 rfl (lv_at hl 0 rfl) ?_
      obtain ⟨jl, hjl, elm⟩ := hlm i (by omega) c_3
      have clm : (th i).toNatClampNeg = jl := by rw [elm]; exact nI_clamp (by omega)
      rw [elm]
      refine zq_cVi (As := [.int (nI i), .int (nI jl)]) (rest := [.int (nI (pb_k th hu (la_hr pl le ch ca N) be (clk + 1) i).2)]) (wc := (wRo a cI cZ cD ki pl tu le (la_hr pl le ch ca N) ca (nI N) tk th hu od (nI M) ti ((pb_k th hu (la_hr pl le ch ca N) be (clk + 1) i).1) (clk + 1))) (w1 := (wRo a cI cZ cD ki pl tu le (la_hr pl le ch ca N) ca (nI N) tk th hu od (nI M) ti ((pb_2 hu (la_hr pl le ch ca N) ((pb_k th hu (la_hr pl le ch ca N) be (clk + 1) i).1) (clk + 1) jl i).1) (clk + 1))) (wr := ([] : va_W)) (ws' := (wRo a cI cZ cD ki pl tu le (la_hr pl le ch ca N) ca (nI N) tk th hu od (nI M) ti ((pb_2 hu (la_hr pl le ch ca N) ((pb_k th hu (la_hr pl le ch ca N) be (clk + 1) i).1) (clk + 1) jl i).1) (clk + 1))) ⟨hx, hb, hml, hown, hts⟩ (c_X3_beginAlarms l dC dI a cI cZ cD ki pl tu le (la_hr pl le ch ca N) ca N tk th hu od M ti ((pb_k th hu (la_hr pl le ch ca N) be (clk + 1) i).1) (clk + 1) (by omega) (by omega) i (by omega) jl (by omega) H.size) (cwV 2 hts gX3_passHour_X3_beginAlarms rfl rfl rfl (by decide +kernel) ⟨Nat.le_of_ble_eq_true rfl, Nat.le_of_ble_eq_true rfl⟩) hK hP hD hS hA [0, 1, 2, 3, 4, 5, 6, 7, 8, 9, 10, 11, 12, 13, 14] [] [0, 1, 2, 3, 4, 5, 6, 7, 8, 9, 10, 11, 12, 13, 14] rfl rfl rfl rfl (by decide) rfl rfl (ci := 3) rfl 0 rfl rfl hl.1 rfl (Nat.le_of_ble_eq_true rfl) dX3_passHour_57 ⟨Nat.zero_le _, Nat.zero_le _⟩ (fun H locs hP hD hS => ?_)
      refine t_iadd hx hb dX3_passHour_60 (v := nI (((pb_k th hu (la_hr pl le ch ca N) be (clk + 1) i).2) + ((pb_2 hu (la_hr pl le ch ca N) ((pb_k th hu (la_hr pl le ch ca N) be (clk + 1) i).1) (clk + 1) jl i).2))) (nI_add _ _) ?_
      refine lv_istore_n (lv' := [(1, .int (nI (((pb_k th hu (la_hr pl le ch ca N) be (clk + 1) i).2) + ((pb_2 hu (la_hr pl le ch ca N) ((pb_k th hu (la_hr pl le ch ca N) be (clk + 1) i).1) (clk + 1) jl i).2)))), (3, .int (th i)), (2, .int (nI i)), (0, .ref (a 0))]) hx hb dX3_passHour_61 rfl hl (by decide) rfl (fun ls hl => ?_)
      refine lv_iinc (v := nI (i + 1)) (lv' := [(2, .int (nI (i + 1))), (1, .int (nI (((pb_k th hu (la_hr pl le ch ca N) be (clk + 1) i).2) + ((pb_2 hu (la_hr pl le ch ca N) ((pb_k th hu (la_hr pl le ch ca N) be (clk + 1) i).1) (clk + 1) jl i).2)))), (3, .int (th i)), (0, .ref (a 0))]) hx hb dX3_passHour_62 hl (k := 2) rfl (nI_add _ 1) (by decide) rfl (fun ls hl => ?_)
      refine lv_goto (tgt := 28) hx hb dX3_passHour_65 (by decide) ?_
      have e_6 : ((pb_k th hu (la_hr pl le ch ca N) be (clk + 1) (i + 1)).1) = ((pb_2 hu (la_hr pl le ch ca N) ((pb_k th hu (la_hr pl le ch ca N) be (clk + 1) i).1) (clk + 1) jl i).1) := by rw [pb_k, if_neg c_3, clm]
      have e_7 : (nI (pb_k th hu (la_hr pl le ch ca N) be (clk + 1) (i + 1)).2) = (nI (((pb_k th hu (la_hr pl le ch ca N) be (clk + 1) i).2) + ((pb_2 hu (la_hr pl le ch ca N) ((pb_k th hu (la_hr pl le ch ca N) be (clk + 1) i).1) (clk + 1) jl i).2))) := by rw [pb_k, if_neg c_3, clm]
      exact ih_i _ _ _ (by omega) ⟨(by (try rw [e_6]); (try rw [e_7]); exact hP), (by (try rw [e_6]); (try rw [e_7]); exact hD), hS, (by (try rw [e_6]); (try rw [e_7]); exact lv_sub hl [1, 0, 3] rfl)⟩

set_option maxHeartbeats 4000000 in
set_option maxRecDepth 100000 in
theorem c_X3_hours_bad (l : Launch) (hl0 : l.stackTraces = false) (dC : Nat → ClassId) (dI : Nat → Nat → Nat) (a : Nat → Nat) (cI cZ cD : ClassId) (ki pl tu le : Nat → Int32) (ch ca : Nat → UInt64) (N : Nat) (tk th hu od : Nat → Int32) (M : Nat) (ti : Int32) (be : Nat → Int32) (clk : Int32) (hN : N ≤ 40) (hM : M ≤ 30) (x : Int32) (hx0 : in_b x 1 100 = false) (sz : Nat) : zx_Mi l yX3_hours wsX3_hours ({ frames := 6, cells := 1, slots := 6, locals := 90 } : Room) (dC, dI) (zq_T cI cZ cD) [.ref (a 0), .int x] (wRo a cI cZ cD ki pl tu le ch ca (nI N) tk th hu od (nI M) ti be clk) zx_A sz := by
  refine vx_ofW (cc := cX3_hours) (maxL := 4) (ret := (some .int)) (by decide) rfl ?_
  intro p e s m args below meth c s₁ B hml hno hv
  obtain ⟨rfl, ⟨hsz, hP, hK, hD0⟩, hH, hE⟩ := hv
  have hx := B.exec
  have hb := B.bytes
  have hr := B.returns
  have hts := atoms_spec (ws := wsX3_hours) B.pre
  have hown : s.vm.findClass RX3 = some m.cls := findClass_of_methodNamed B.named
  have hlocks := B.notSynchronized
  subst hsz
  have hD := hD0.self (sz := s.heap.size)
  generalize hAe : va_A (wRo a cI cZ cD ki pl tu le ch ca (nI N) tk th hu od (nI M) ti be clk) s.heap.size = A at hD hH ⊢
  have hA : ∀ q : Nat, s.heap.size ≤ q → A q := fun q h => by rw [← hAe]; exact Or.inr h
  have hS : va_S A s.heap s.heap [] := va_S.rf
  have hP : va_P (dC, dI) vwCl (wRo a cI cZ cD ki pl tu le ch ca (nI N) tk th hu od (nI M) ti be clk) s.heap := hP
  have hl := lv_entry ([.ref (a 0), .int x]) (n := 4) (Nat.le_of_ble_eq_true rfl)
  rw [lg_entry_eq]
  generalize (lg_sl ([.ref (a 0), .int x]) ++ List.replicate (4 - (lg_sl ([.ref (a 0), .int x])).length) Slot.unset).toArray = ls at hl ⊢
  have hl : lv_has ls 4 [(0, .ref (a 0)), (1, .int x)] := hl
  have hthk := hts (.classLink RX3 113 zx_A) (by decide +kernel)
  have hthi := hts (.initialized zx_A) (by decide +kernel)
  have hthw : ∀ w ∈ (vx_atS RX3 117 zx_A zx_N).filter goodWord, w.before _ s = true := fun w h => hts w ((by decide +kernel : ∀ w ∈ (vx_atS RX3 117 zx_A zx_N).filter goodWord, w ∈ wsX3_hours) w h)
  refine lv_iload_n hx hb dX3_hours_0 rfl (lv_at hl 1 rfl) ?_
  refine lv_iconst (v := 1) hx hb dX3_hours_1 (by decide) ?_
  refine lv_icmp_lt (tgt := 11) hx hb dX3_hours_2 (by decide) (fun c_0 => ?_) (fun c_0 => ?_)
  · obtain ⟨sa, hsa⟩ := hE.2.2.2.2.2.2.2.2.2.2.2
    exact vx_throwS (A := A) (text := "hours must be 1 to 100") (names := zx_N) hx hb hl0 hown (by decide +kernel) (by decide +kernel) hthk hthi hsa (zx_hatA hthw hE) zx_goodA hH.1 hH.2 hS (hl.1.trans hml.symm) dX3_hours_11 dX3_hours_14 dX3_hours_15 dX3_hours_17 dX3_hours_20 (fun x hx => (hno x hx).elim) (Nat.le_of_ble_eq_true rfl) (Nat.le_of_ble_eq_true rfl) (Nat.le_of_ble_eq_true rfl) (Nat.le_of_ble_eq_true rfl) hlocks (zx_thrown hP hK hD hS) hS.2.2 (Nat.le_of_ble_eq_true rfl) (Nat.le_of_ble_eq_true rfl)
  · refine lv_iload_n hx hb dX3_hours_5 rfl (lv_at hl 1 rfl) ?_
    refine lv_bipush (v := 100) hx hb dX3_hours_6 (by decide) ?_
    refine lv_icmp_le (tgt := 21) hx hb dX3_hours_8 (by decide) (fun c_1 => ?_) (fun c_1 => ?_)
    · exact ((in_b_hn hx0).elim c_0 (fun h => h c_1)).elim
    · obtain ⟨sa, hsa⟩ := hE.2.2.2.2.2.2.2.2.2.2.2
      exact vx_throwS (A := A) (text := "hours must be 1 to 100") (names := zx_N) hx hb hl0 hown (by decide +kernel) (by decide +kernel) hthk hthi hsa (zx_hatA hthw hE) zx_goodA hH.1 hH.2 hS (hl.1.trans hml.symm) dX3_hours_11 dX3_hours_14 dX3_hours_15 dX3_hours_17 dX3_hours_20 (fun x hx => (hno x hx).elim) (Nat.le_of_ble_eq_true rfl) (Nat.le_of_ble_eq_true rfl) (Nat.le_of_ble_eq_true rfl) (Nat.le_of_ble_eq_true rfl) hlocks (zx_thrown hP hK hD hS) hS.2.2 (Nat.le_of_ble_eq_true rfl) (Nat.le_of_ble_eq_true rfl)

set_option maxHeartbeats 4000000 in
set_option maxRecDepth 100000 in
theorem c_X3_hours_ok (l : Launch) (dC : Nat → ClassId) (dI : Nat → Nat → Nat) (a : Nat → Nat) (cI cZ cD : ClassId) (ki pl tu le : Nat → Int32) (ch ca : Nat → UInt64) (N : Nat) (tk th hu od : Nat → Int32) (M : Nat) (ti : Int32) (be : Nat → Int32) (clk : Int32) (hN : N ≤ 40) (hM : M ≤ 30) (n : Nat) (h1 : 1 ≤ n) (h2 : n ≤ 100) (hp : ∀ i, i < 40 → zn_p (ch i)) (hc : ∀ i, i < 40 → zn_p (ca i)) (hlm : ∀ mi, mi < M → ¬ th mi = -1 → ∃ j, j < N ∧ th mi = nI j) (sz : Nat) : zq_Mi l yX3_hours wsX3_hours ({ frames := 3, cells := 0, slots := 0, locals := 70 } : Room) (dC, dI) (zq_T cI cZ cD) [.ref (a 0), .int (nI n)] (wRo a cI cZ cD ki pl tu le ch ca (nI N) tk th hu od (nI M) ti be clk) (nI (ho_k pl le ca th hu N M ch clk be n).2.2) (wRo a cI cZ cD ki pl tu le ((ho_k pl le ca th hu N M ch clk be n).1.1) ca (nI N) tk th hu od (nI M) ti ((ho_k pl le ca th hu N M ch clk be n).2.1) ((ho_k pl le ca th hu N M ch clk be n).1.2)) sz := by
  refine Met.ofW (cc := cX3_hours) (maxL := 4) (ret := (some .int)) (by decide) rfl ?_
  intro p e s m args below meth c s₁ B hml hv
  obtain ⟨rfl, hsz, hP, hK, hD0⟩ := hv
  have hx := B.exec
  have hb := B.bytes
  have hr := B.returns
  have hts := atoms_spec (ws := wsX3_hours) B.pre
  have hown : s.vm.findClass RX3 = some m.cls := findClass_of_methodNamed B.named
  have hlocks := B.notSynchronized
  subst hsz
  have hD := hD0.self (sz := s.heap.size)
  generalize hAe : va_A (wRo a cI cZ cD ki pl tu le ch ca (nI N) tk th hu od (nI M) ti be clk) s.heap.size = A at hD ⊢
  have hA : ∀ q : Nat, s.heap.size ≤ q → A q := fun q h => by rw [← hAe]; exact Or.inr h
  have hS : va_S A s.heap s.heap [] := va_S.rf
  have hP : va_P (dC, dI) vwCl (wRo a cI cZ cD ki pl tu le ch ca (nI N) tk th hu od (nI M) ti be clk) s.heap := hP
  have hl := lv_entry ([.ref (a 0), .int (nI n)]) (n := 4) (Nat.le_of_ble_eq_true rfl)
  rw [lg_entry_eq]
  generalize (lg_sl ([.ref (a 0), .int (nI n)]) ++ List.replicate (4 - (lg_sl ([.ref (a 0), .int (nI n)])).length) Slot.unset).toArray = ls at hl ⊢
  have hl : lv_has ls 4 [(0, .ref (a 0)), (1, .int (nI n))] := hl
  refine lv_iload_n hx hb dX3_hours_0 rfl (lv_at hl 1 rfl) ?_
  refine lv_iconst (v := 1) hx hb dX3_hours_1 (by decide) ?_
  refine lv_icmp_lt (tgt := 11) hx hb dX3_hours_2 (by decide) (fun c_0 => ?_) (fun c_0 => ?_)
  · have d_0 := (nI_ltI (a := n) (b := 1) (by omega) (by omega)).mp c_0
    exact absurd h1 (by omega)
  · have d_0 := Nat.not_lt.mp (fun h => c_0 ((nI_ltI (a := n) (b := 1) (by omega) (by omega)).mpr h))
    refine lv_iload_n hx hb dX3_hours_5 rfl (lv_at hl 1 rfl) ?_
    refine lv_bipush (v := 100) hx hb dX3_hours_6 (by decide) ?_
    refine lv_icmp_le (tgt := 21) hx hb dX3_hours_8 (by decide) (fun c_1 => ?_) (fun c_1 => ?_)
    · have d_1 := (nI_leI (a := n) (b := 100) (by omega) (by omega)).mp c_1
      refine lv_iconst (v := 0) hx hb dX3_hours_21 (by decide) ?_
      refine lv_istore_n (lv' := [(2, .int 0), (0, .ref (a 0)), (1, .int (nI n))]) hx hb dX3_hours_22 rfl hl (by decide) rfl (fun ls hl => ?_)
      refine lv_iconst (v := 0) hx hb dX3_hours_23 (by decide) ?_
      refine lv_istore_n (lv' := [(3, .int 0), (2, .int 0), (0, .ref (a 0)), (1, .int (nI n))]) hx hb dX3_hours_24 rfl hl (by decide) rfl (fun ls hl => ?_)
      refine zq_loop 25 n (fun t H locs ls => va_P (dC, dI) vwCl (wRo a cI cZ cD ki pl tu le ((ho_k pl le ca th hu N M ch clk be t).1.1) ca (nI N) tk th hu od (nI M) ti ((ho_k pl le ca th hu N M ch clk be t).2.1) ((ho_k pl le ca th hu N M ch clk be t).1.2)) H ∧ va_D A (wRo a cI cZ cD ki pl tu le ((ho_k pl le ca th hu N M ch clk be t).1.1) ca (nI N) tk th hu od (nI M) ti ((ho_k pl le ca th hu N M ch clk be t).2.1) ((ho_k pl le ca th hu N M ch clk be t).1.2)) ∧ va_S A s.heap H locs ∧ lv_has ls 4 [(2, .int (nI (ho_k pl le ca th hu N M ch clk be t).2.2)), (3, .int (nI t)), (0, .ref (a 0)), (1, .int (nI n))]) ?_ 0 (by omega) _ _ _ ⟨hP, hD, hS, lv_sub hl [1, 0, 2, 3] rfl⟩
      intro t hi_t ih_t H locs ls hh
      obtain ⟨hP, hD, hS, hl⟩ := hh
      refine lv_iload_n hx hb dX3_hours_25 rfl (lv_at hl 1 rfl) ?_
      refine lv_iload_n hx hb dX3_hours_26 rfl (lv_at hl 3 rfl) ?_
      refine lv_icmp_ge (tgt := 43) hx hb dX3_hours_27 (by decide) (fun c_2 => ?_) (fun c_2 => ?_)
      · have d_2 := (nI_leI (a := n) (b := t) (by omega) (by omega)).mp c_2
        have ei_t : t = n := by omega
        refine lv_iload_n hx hb dX3_hours_43 rfl (lv_at hl 0 rfl) ?_
        have e_3 : ((ho_k pl le ca th hu N M ch clk be n).1.1) = ((ho_k pl le ca th hu N M ch clk be t).1.1) := by rw [ei_t]
        have e_4 : ((ho_k pl le ca th hu N M ch clk be n).2.1) = ((ho_k pl le ca th hu N M ch clk be t).2.1) := by rw [ei_t]
        have e_5 : ((ho_k pl le ca th hu N M ch clk be n).1.2) = ((ho_k pl le ca th hu N M ch clk be t).1.2) := by rw [ei_t]
        exact W.iret (v := nI (ho_k pl le ca th hu N M ch clk be t).2.2) hx hb hr (zq_qi (by rw [ei_t]) (by rw [e_3, e_4, e_5]; exact hP) hK (by rw [e_3, e_4, e_5]; exact hD) hS) hS.2.2 dX3_hours_44
      · have d_2 := Nat.not_le.mp (fun h => c_2 ((nI_leI (a := n) (b := t) (by omega) (by omega)).mpr h))
        refine lv_iload_n hx hb dX3_hours_30 rfl (lv_at hl 0 rfl) ?_
        refine lv_aload_n hx hb dX3_hours_31 rfl (lv_at hl 2 rfl) ?_
        refine zq_cVi (As := []) (rest := [.int (nI (ho_k pl le ca th hu N M ch clk be t).2.2)]) (wc := (wRo a cI cZ cD ki pl tu le ((ho_k pl le ca th hu N M ch clk be t).1.1) ca (nI N) tk th hu od (nI M) ti ((ho_k pl le ca th hu N M ch clk be t).2.1) ((ho_k pl le ca th hu N M ch clk be t).1.2))) (w1 := (wRo a cI cZ cD ki pl tu le (la_hr pl le ((ho_k pl le ca th hu N M ch clk be t).1.1) ca N) ca (nI N) tk th hu od (nI M) ti ((pb_k th hu (la_hr pl le ((ho_k pl le ca th hu N M ch clk be t).1.1) ca N) ((ho_k pl le ca th hu N M ch clk be t).2.1) (((ho_k pl le ca th hu N M ch clk be t).1.2) + 1) M).1) (((ho_k pl le ca th hu N M ch clk be t).1.2) + 1))) (wr := ([] : va_W)) (ws' := (wRo a cI cZ cD ki pl tu le (la_hr pl le ((ho_k pl le ca th hu N M ch clk be t).1.1) ca N) ca (nI N) tk th hu od (nI M) ti ((pb_k th hu (la_hr pl le ((ho_k pl le ca th hu N M ch clk be t).1.1) ca N) ((ho_k pl le ca th hu N M ch clk be t).2.1) (((ho_k pl le ca th hu N M ch clk be t).1.2) + 1) M).1) (((ho_k pl le ca th hu N M ch clk be t).1.2) + 1))) ⟨hx, hb, hml, hown, hts⟩ (c_X3_passHour l dC dI a cI cZ cD ki pl tu le ((ho_k pl le ca th hu N M ch clk be t).1.1) ca N tk th hu od M ti ((ho_k pl le ca th hu N M ch clk be t).2.1) ((ho_k pl le ca th hu N M ch clk be t).1.2) (by omega) (by omega) (zn_ho hp hc t) (hc) (hlm) H.size) (cwV 0 hts gX3_hours_X3_passHour rfl rfl rfl (by decide +kernel) ⟨Nat.le_of_ble_eq_true rfl, Nat.le_of_ble_eq_true rfl⟩) hK hP hD hS hA [0, 1, 2, 3, 4, 5, 6, 7, 8, 9, 10, 11, 12, 13, 14] [] [0, 1, 2, 3, 4, 5, 6, 7, 8, 9, 10, 11, 12, 13, 14] rfl rfl rfl rfl (by decide) rfl rfl (ci := 3) rfl 0 rfl rfl hl.1 rfl (Nat.le_of_ble_eq_true rfl) dX3_hours_32 ⟨Nat.zero_le _, Nat.zero_le _⟩ (fun H locs hP hD hS => ?_)
        refine t_iadd hx hb dX3_hours_35 (v := nI (((ho_k pl le ca th hu N M ch clk be t).2.2) + ((pb_k th hu (la_hr pl le ((ho_k pl le ca th hu N M ch clk be t).1.1) ca N) ((ho_k pl le ca th hu N M ch clk be t).2.1) (((ho_k pl le ca th hu N M ch clk be t).1.2) + 1) M).2))) (nI_add _ _) ?_
        refine lv_istore_n (lv' := [(2, .int (nI (((ho_k pl le ca th hu N M ch clk be t).2.2) + ((pb_k th hu (la_hr pl le ((ho_k pl le ca th hu N M ch clk be t).1.1) ca N) ((ho_k pl le ca th hu N M ch clk be t).2.1) (((ho_k pl le ca th hu N M ch clk be t).1.2) + 1) M).2)))), (3, .int (nI t)), (0, .ref (a 0)), (1, .int (nI n))]) hx hb dX3_hours_36 rfl hl (by decide) rfl (fun ls hl => ?_)
        refine lv_iinc (v := nI (t + 1)) (lv' := [(3, .int (nI (t + 1))), (2, .int (nI (((ho_k pl le ca th hu N M ch clk be t).2.2) + ((pb_k th hu (la_hr pl le ((ho_k pl le ca th hu N M ch clk be t).1.1) ca N) ((ho_k pl le ca th hu N M ch clk be t).2.1) (((ho_k pl le ca th hu N M ch clk be t).1.2) + 1) M).2)))), (0, .ref (a 0)), (1, .int (nI n))]) hx hb dX3_hours_37 hl (k := 1) rfl (nI_add _ 1) (by decide) rfl (fun ls hl => ?_)
        refine lv_goto (tgt := 25) hx hb dX3_hours_40 (by decide) ?_
        have e_6 : ((ho_k pl le ca th hu N M ch clk be (t + 1)).1.1) = (la_hr pl le ((ho_k pl le ca th hu N M ch clk be t).1.1) ca N) := by rw [ho_k]
        have e_7 : ((ho_k pl le ca th hu N M ch clk be (t + 1)).1.2) = (((ho_k pl le ca th hu N M ch clk be t).1.2) + 1) := by rw [ho_k]
        have e_8 : ((ho_k pl le ca th hu N M ch clk be (t + 1)).2.1) = ((pb_k th hu (la_hr pl le ((ho_k pl le ca th hu N M ch clk be t).1.1) ca N) ((ho_k pl le ca th hu N M ch clk be t).2.1) (((ho_k pl le ca th hu N M ch clk be t).1.2) + 1) M).1) := by rw [ho_k]
        have e_9 : (nI (ho_k pl le ca th hu N M ch clk be (t + 1)).2.2) = (nI (((ho_k pl le ca th hu N M ch clk be t).2.2) + ((pb_k th hu (la_hr pl le ((ho_k pl le ca th hu N M ch clk be t).1.1) ca N) ((ho_k pl le ca th hu N M ch clk be t).2.1) (((ho_k pl le ca th hu N M ch clk be t).1.2) + 1) M).2))) := by rw [ho_k]
        exact ih_t _ _ _ (by omega) ⟨(by (try rw [e_6]); (try rw [e_7]); (try rw [e_8]); (try rw [e_9]); exact hP), (by (try rw [e_6]); (try rw [e_7]); (try rw [e_8]); (try rw [e_9]); exact hD), hS, (by (try rw [e_6]); (try rw [e_7]); (try rw [e_8]); (try rw [e_9]); exact lv_sub hl [1, 0, 2, 3] rfl)⟩
    · have d_1 := Nat.not_le.mp (fun h => c_1 ((nI_leI (a := n) (b := 100) (by omega) (by omega)).mpr h))
      exact absurd h2 (by omega)
