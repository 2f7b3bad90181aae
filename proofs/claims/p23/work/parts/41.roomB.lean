set_option maxHeartbeats 4000000 in
set_option maxRecDepth 100000 in
theorem c_X3_addLamp_bad (l : Launch) (hl0 : l.stackTraces = false) (dC : Nat → ClassId) (dI : Nat → Nat → Nat) (a : Nat → Nat) (cI cZ cD : ClassId) (ki pl tu le : Nat → Int32) (ch ca : Nat → UInt64) (N : Nat) (tk th hu od : Nat → Int32) (M : Nat) (ti : Int32) (be : Nat → Int32) (clk : Int32) (hN : N ≤ 40) (hM : M ≤ 30) (k : Int32) (hk : in_b k 0 2 = false) (sz : Nat) : zx_Mi l yX3_addLamp wsX3_addLamp ({ frames := 7, cells := 1, slots := 6, locals := 110 } : Room) (dC, dI) (zq_T cI cZ cD) [.ref (a 0), .int k] (wRo a cI cZ cD ki pl tu le ch ca (nI N) tk th hu od (nI M) ti be clk) zx_A sz := by
  refine vx_ofW (cc := cX3_addLamp) (maxL := 2) (ret := (some .int)) (by decide) rfl ?_
  intro p e s m args below meth c s₁ B hml hno hv
  obtain ⟨rfl, ⟨hsz, hP, hK, hD0⟩, hH, hE⟩ := hv
  have hx := B.exec
  have hb := B.bytes
  have hr := B.returns
  have hts := atoms_spec (ws := wsX3_addLamp) B.pre
  have hown : s.vm.findClass RX3 = some m.cls := findClass_of_methodNamed B.named
  have hlocks := B.notSynchronized
  subst hsz
  have hD := hD0.self (sz := s.heap.size)
  generalize hAe : va_A (wRo a cI cZ cD ki pl tu le ch ca (nI N) tk th hu od (nI M) ti be clk) s.heap.size = A at hD hH ⊢
  have hA : ∀ q : Nat, s.heap.size ≤ q → A q := fun q h => by rw [← hAe]; exact Or.inr h
  have hS : va_S A s.heap s.heap [] := va_S.rf
  have hP : va_P (dC, dI) vwCl (wRo a cI cZ cD ki pl tu le ch ca (nI N) tk th hu od (nI M) ti be clk) s.heap := hP
  have hl := lv_entry ([.ref (a 0), .int k]) (n := 2) (Nat.le_of_ble_eq_true rfl)
  rw [lg_entry_eq]
  generalize (lg_sl ([.ref (a 0), .int k]) ++ List.replicate (2 - (lg_sl ([.ref (a 0), .int k])).length) Slot.unset).toArray = ls at hl ⊢
  have hl : lv_has ls 2 [(0, .ref (a 0)), (1, .int k)] := hl
  refine lv_iload_n hx hb dX3_addLamp_0 rfl (lv_at hl 1 rfl) ?_
  refine zx_cSv (E := zx_A) (As := [.int k]) (rest := []) ⟨hx, hb, hml, hown, hts⟩ (c_X3_checkKind_bad l hl0 dC dI cI cZ cD k (by omega) s.heap.size) (va_cwS 1 hts gX3_addLamp_X3_checkKind rfl rfl rfl (by decide +kernel) ⟨Nat.le_of_ble_eq_true rfl, Nat.le_of_ble_eq_true rfl⟩) hK hP hD hS hA (hH.kept hS.2.1) hE rfl hl.1 rfl (Nat.le_of_ble_eq_true rfl) dX3_addLamp_1 ⟨Nat.le_of_ble_eq_true rfl, Nat.le_of_ble_eq_true rfl⟩ (fun H locs q9 ce hP hD hS hce hcv hcl hG => ?_)
  exact zx_on hno hlocks hP hK hD hS hce hcv hcl hG (Nat.le_of_ble_eq_true rfl) (Nat.le_of_ble_eq_true rfl)

set_option maxHeartbeats 4000000 in
set_option maxRecDepth 100000 in
theorem c_X3_addLamp_ok (l : Launch) (dC : Nat → ClassId) (dI : Nat → Nat → Nat) (a : Nat → Nat) (cI cZ cD : ClassId) (ki pl tu le : Nat → Int32) (ch ca : Nat → UInt64) (N : Nat) (tk th hu od : Nat → Int32) (M : Nat) (ti : Int32) (be : Nat → Int32) (clk : Int32) (hN : N ≤ 40) (hM : M ≤ 30) (k : Int32) (hk : in_b k 0 2 = true) (hf : N < 40) (sz : Nat) : zq_Mi l yX3_addLamp wsX3_addLamp ({ frames := 2, cells := 0, slots := 0, locals := 42 } : Room) (dC, dI) (zq_T cI cZ cD) [.ref (a 0), .int k] (wRo a cI cZ cD ki pl tu le ch ca (nI N) tk th hu od (nI M) ti be clk) (nI N) (wRo a cI cZ cD (upd ki N k) (upd pl N 0) tu le (vf_upd ch N (la_new k)) (vf_upd ca N (la_new k)) (nI (N + 1)) tk th hu od (nI M) ti be clk) sz := by
  refine Met.ofW (cc := cX3_addLamp) (maxL := 2) (ret := (some .int)) (by decide) rfl ?_
  intro p e s m args below meth c s₁ B hml hv
  obtain ⟨rfl, hsz, hP, hK, hD0⟩ := hv
  have hx := B.exec
  have hb := B.bytes
  have hr := B.returns
  have hts := atoms_spec (ws := wsX3_addLamp) B.pre
  have hown : s.vm.findClass RX3 = some m.cls := findClass_of_methodNamed B.named
  have hlocks := B.notSynchronized
  subst hsz
  have hD := hD0.self (sz := s.heap.size)
  generalize hAe : va_A (wRo a cI cZ cD ki pl tu le ch ca (nI N) tk th hu od (nI M) ti be clk) s.heap.size = A at hD ⊢
  have hA : ∀ q : Nat, s.heap.size ≤ q → A q := fun q h => by rw [← hAe]; exact Or.inr h
  have hS : va_S A s.heap s.heap [] := va_S.rf
  have hP : va_P (dC, dI) vwCl (wRo a cI cZ cD ki pl tu le ch ca (nI N) tk th hu od (nI M) ti be clk) s.heap := hP
  have hl := lv_entry ([.ref (a 0), .int k]) (n := 2) (Nat.le_of_ble_eq_true rfl)
  rw [lg_entry_eq]
  generalize (lg_sl ([.ref (a 0), .int k]) ++ List.replicate (2 - (lg_sl ([.ref (a 0), .int k])).length) Slot.unset).toArray = ls at hl ⊢
  have hl : lv_has ls 2 [(0, .ref (a 0)), (1, .int k)] := hl
  have hf_10 := hts (.fieldLink RX3 10 "LampRoom" "lamps" "LLampRoom$Lamps;") (by decide +kernel)
  have hin_3 : ∀ w ∈ wsX30, w ∈ wsX3_addLamp := by decide +kernel
  refine lv_iload_n hx hb dX3_addLamp_0 rfl (lv_at hl 1 rfl) ?_
  refine zq_cSv (As := [.int k]) (rest := []) ⟨hx, hb, hml, hown, hts⟩ (c_X3_checkKind_ok l k (by omega)) (va_cwS 1 hts gX3_addLamp_X3_checkKind rfl rfl rfl (by decide +kernel) ⟨Nat.le_of_ble_eq_true rfl, Nat.le_of_ble_eq_true rfl⟩) hP hS rfl hl.1 rfl (Nat.le_of_ble_eq_true rfl) dX3_addLamp_1 ⟨Nat.zero_le _, Nat.zero_le _⟩ (fun H locs hP hS => ?_)
  refine lv_aload_n hx hb dX3_addLamp_4 rfl (lv_at hl 0 rfl) ?_
  refine va_get (D := (dC, dI)) (ci := 3) (v := .ref (a 1)) (C := RX3) (T := TX3) (N := 4) hx hb hts hin_3 hown hK hP 0 rfl rfl 0 (by decide) hf_10 (fun _ h9 => h9) rfl dX3_addLamp_5 ?_
  refine zq_cVi (As := []) (rest := []) (wc := (wLa a cI cZ cD ki pl tu le ch ca (nI N))) (w1 := (wLa a cI cZ cD ki pl tu le ch ca (nI N))) (wr := ([wRm a clk] ++ (wTa a cI tk th hu od (nI M) ti ++ (wAl a cI be)) : va_W)) (ws' := (wRo a cI cZ cD ki pl tu le ch ca (nI N) tk th hu od (nI M) ti be clk)) ⟨hx, hb, hml, hown, hts⟩ (c_X1_size l dC dI a cI cZ cD ki pl tu le ch ca N (by omega) H.size) (cwV 0 hts gX3_addLamp_X1_size rfl rfl rfl (by decide +kernel) ⟨Nat.le_of_ble_eq_true rfl, Nat.le_of_ble_eq_true rfl⟩) hK hP hD hS hA [1, 2, 3, 4, 5, 6, 7] [0, 8, 9, 10, 11, 12, 13, 14] [0, 8, 9, 10, 11, 12, 13, 14, 1, 2, 3, 4, 5, 6, 7] rfl rfl rfl rfl (by decide) rfl rfl (ci := 1) rfl 0 rfl rfl hl.1 rfl (Nat.le_of_ble_eq_true rfl) dX3_addLamp_8 ⟨Nat.zero_le _, Nat.zero_le _⟩ (fun H locs hP hD hS => ?_)
  refine lv_bipush (v := 40) hx hb dX3_addLamp_11 (by decide) ?_
  refine lv_icmp_lt (tgt := 26) hx hb dX3_addLamp_13 (by decide) (fun c_0 => ?_) (fun c_0 => ?_)
  · have d_0 := (nI_ltI (a := N) (b := 40) (by omega) (by omega)).mp c_0
    refine lv_aload_n hx hb dX3_addLamp_26 rfl (lv_at hl 0 rfl) ?_
    refine va_get (D := (dC, dI)) (ci := 3) (v := .ref (a 1)) (C := RX3) (T := TX3) (N := 4) hx hb hts hin_3 hown hK hP 0 rfl rfl 0 (by decide) hf_10 (fun _ h9 => h9) rfl dX3_addLamp_27 ?_
    refine lv_iload_n hx hb dX3_addLamp_30 rfl (lv_at hl 1 rfl) ?_
    refine zq_cVi (As := [.int k]) (rest := []) (wc := (wLa a cI cZ cD ki pl tu le ch ca (nI N))) (w1 := (wLa a cI cZ cD (upd ki N k) (upd pl N 0) tu le (vf_upd ch N (la_new k)) (vf_upd ca N (la_new k)) (nI (N + 1)))) (wr := ([wRm a clk] ++ (wTa a cI tk th hu od (nI M) ti ++ (wAl a cI be)) : va_W)) (ws' := (wRo a cI cZ cD (upd ki N k) (upd pl N 0) tu le (vf_upd ch N (la_new k)) (vf_upd ca N (la_new k)) (nI (N + 1)) tk th hu od (nI M) ti be clk)) ⟨hx, hb, hml, hown, hts⟩ (c_X1_hangNew l dC dI a cI cZ cD ki pl tu le ch ca N (by omega) k (by omega) H.size) (cwV 1 hts gX3_addLamp_X1_hangNew rfl rfl rfl (by decide +kernel) ⟨Nat.le_of_ble_eq_true rfl, Nat.le_of_ble_eq_true rfl⟩) hK hP hD hS hA [1, 2, 3, 4, 5, 6, 7] [0, 8, 9, 10, 11, 12, 13, 14] [0, 8, 9, 10, 11, 12, 13, 14, 1, 2, 3, 4, 5, 6, 7] rfl rfl rfl rfl (by decide) rfl rfl (ci := 1) rfl 0 rfl rfl hl.1 rfl (Nat.le_of_ble_eq_true rfl) dX3_addLamp_31 ⟨Nat.zero_le _, Nat.zero_le _⟩ (fun H locs hP hD hS => ?_)
    exact W.iret (v := nI N) hx hb hr (zq_qi rfl hP hK hD hS) hS.2.2 dX3_addLamp_34
  · have d_0 := Nat.not_lt.mp (fun h => c_0 ((nI_ltI (a := N) (b := 40) (by omega) (by omega)).mpr h))
    exact absurd hf (by omega)

set_option maxHeartbeats 4000000 in
set_option maxRecDepth 100000 in
theorem c_X3_addMiner_bad (l : Launch) (hl0 : l.stackTraces = false) (dC : Nat → ClassId) (dI : Nat → Nat → Nat) (a : Nat → Nat) (cI cZ cD : ClassId) (ki pl tu le : Nat → Int32) (ch ca : Nat → UInt64) (N : Nat) (tk th hu od : Nat → Int32) (M : Nat) (ti : Int32) (be : Nat → Int32) (clk : Int32) (hN : N ≤ 40) (hM : M ≤ 30) (k : Int32) (hk : in_b k 0 2 = false) (sz : Nat) : zx_Mi l yX3_addMiner wsX3_addMiner ({ frames := 7, cells := 1, slots := 6, locals := 110 } : Room) (dC, dI) (zq_T cI cZ cD) [.ref (a 0), .int k] (wRo a cI cZ cD ki pl tu le ch ca (nI N) tk th hu od (nI M) ti be clk) zx_A sz := by
  refine vx_ofW (cc := cX3_addMiner) (maxL := 2) (ret := (some .int)) (by decide) rfl ?_
  intro p e s m args below meth c s₁ B hml hno hv
  obtain ⟨rfl, ⟨hsz, hP, hK, hD0⟩, hH, hE⟩ := hv
  have hx := B.exec
  have hb := B.bytes
  have hr := B.returns
  have hts := atoms_spec (ws := wsX3_addMiner) B.pre
  have hown : s.vm.findClass RX3 = some m.cls := findClass_of_methodNamed B.named
  have hlocks := B.notSynchronized
  subst hsz
  have hD := hD0.self (sz := s.heap.size)
  generalize hAe : va_A (wRo a cI cZ cD ki pl tu le ch ca (nI N) tk th hu od (nI M) ti be clk) s.heap.size = A at hD hH ⊢
  have hA : ∀ q : Nat, s.heap.size ≤ q → A q := fun q h => by rw [← hAe]; exact Or.inr h
  have hS : va_S A s.heap s.heap [] := va_S.rf
  have hP : va_P (dC, dI) vwCl (wRo a cI cZ cD ki pl tu le ch ca (nI N) tk th hu od (nI M) ti be clk) s.heap := hP
  have hl := lv_entry ([.ref (a 0), .int k]) (n := 2) (Nat.le_of_ble_eq_true rfl)
  rw [lg_entry_eq]
  generalize (lg_sl ([.ref (a 0), .int k]) ++ List.replicate (2 - (lg_sl ([.ref (a 0), .int k])).length) Slot.unset).toArray = ls at hl ⊢
  have hl : lv_has ls 2 [(0, .ref (a 0)), (1, .int k)] := hl
  refine lv_iload_n hx hb dX3_addMiner_0 rfl (lv_at hl 1 rfl) ?_
  refine zx_cSv (E := zx_A) (As := [.int k]) (rest := []) ⟨hx, hb, hml, hown, hts⟩ (c_X3_checkKind_bad l hl0 dC dI cI cZ cD k (by omega) s.heap.size) (va_cwS 1 hts gX3_addMiner_X3_checkKind rfl rfl rfl (by decide +kernel) ⟨Nat.le_of_ble_eq_true rfl, Nat.le_of_ble_eq_true rfl⟩) hK hP hD hS hA (hH.kept hS.2.1) hE rfl hl.1 rfl (Nat.le_of_ble_eq_true rfl) dX3_addMiner_1 ⟨Nat.le_of_ble_eq_true rfl, Nat.le_of_ble_eq_true rfl⟩ (fun H locs q9 ce hP hD hS hce hcv hcl hG => ?_)
  exact zx_on hno hlocks hP hK hD hS hce hcv hcl hG (Nat.le_of_ble_eq_true rfl) (Nat.le_of_ble_eq_true rfl)

set_option maxHeartbeats 4000000 in
set_option maxRecDepth 100000 in
theorem c_X3_addMiner_ok (l : Launch) (dC : Nat → ClassId) (dI : Nat → Nat → Nat) (a : Nat → Nat) (cI cZ cD : ClassId) (ki pl tu le : Nat → Int32) (ch ca : Nat → UInt64) (N : Nat) (tk th hu od : Nat → Int32) (M : Nat) (ti : Int32) (be : Nat → Int32) (clk : Int32) (hN : N ≤ 40) (hM : M ≤ 30) (k : Int32) (hk : in_b k 0 2 = true) (hf : M < 30) (sz : Nat) : zq_Mi l yX3_addMiner wsX3_addMiner ({ frames := 1, cells := 0, slots := 0, locals := 22 } : Room) (dC, dI) (zq_T cI cZ cD) [.ref (a 0), .int k] (wRo a cI cZ cD ki pl tu le ch ca (nI N) tk th hu od (nI M) ti be clk) (nI M) (wRo a cI cZ cD ki pl tu le ch ca (nI N) (upd tk M k) (upd th M (-1)) hu od (nI (M + 1)) ti be clk) sz := by
  refine Met.ofW (cc := cX3_addMiner) (maxL := 2) (ret := (some .int)) (by decide) rfl ?_
  intro p e s m args below meth c s₁ B hml hv
  obtain ⟨rfl, hsz, hP, hK, hD0⟩ := hv
  have hx := B.exec
  have hb := B.bytes
  have hr := B.returns
  have hts := atoms_spec (ws := wsX3_addMiner) B.pre
  have hown : s.vm.findClass RX3 = some m.cls := findClass_of_methodNamed B.named
  have hlocks := B.notSynchronized
  subst hsz
  have hD := hD0.self (sz := s.heap.size)
  generalize hAe : va_A (wRo a cI cZ cD ki pl tu le ch ca (nI N) tk th hu od (nI M) ti be clk) s.heap.size = A at hD ⊢
  have hA : ∀ q : Nat, s.heap.size ≤ q → A q := fun q h => by rw [← hAe]; exact Or.inr h
  have hS : va_S A s.heap s.heap [] := va_S.rf
  have hP : va_P (dC, dI) vwCl (wRo a cI cZ cD ki pl tu le ch ca (nI N) tk th hu od (nI M) ti be clk) s.heap := hP
  have hl := lv_entry ([.ref (a 0), .int k]) (n := 2) (Nat.le_of_ble_eq_true rfl)
  rw [lg_entry_eq]
  generalize (lg_sl ([.ref (a 0), .int k]) ++ List.replicate (2 - (lg_sl ([.ref (a 0), .int k])).length) Slot.unset).toArray = ls at hl ⊢
  have hl : lv_has ls 2 [(0, .ref (a 0)), (1, .int k)] := hl
  have hf_19 := hts (.fieldLink RX3 19 "LampRoom" "tallies" "LLampRoom$Tallies;") (by decide +kernel)
  have hin_3 : ∀ w ∈ wsX30, w ∈ wsX3_addMiner := by decide +kernel
  refine lv_iload_n hx hb dX3_addMiner_0 rfl (lv_at hl 1 rfl) ?_
  refine zq_cSv (As := [.int k]) (rest := []) ⟨hx, hb, hml, hown, hts⟩ (c_X3_checkKind_ok l k (by omega)) (va_cwS 1 hts gX3_addMiner_X3_checkKind rfl rfl rfl (by decide +kernel) ⟨Nat.le_of_ble_eq_true rfl, Nat.le_of_ble_eq_true rfl⟩) hP hS rfl hl.1 rfl (Nat.le_of_ble_eq_true rfl) dX3_addMiner_1 ⟨Nat.zero_le _, Nat.zero_le _⟩ (fun H locs hP hS => ?_)
  refine lv_aload_n hx hb dX3_addMiner_4 rfl (lv_at hl 0 rfl) ?_
  refine va_get (D := (dC, dI)) (ci := 3) (v := .ref (a 8)) (C := RX3) (T := TX3) (N := 4) hx hb hts hin_3 hown hK hP 0 rfl rfl 1 (by decide) hf_19 (fun _ h9 => h9) rfl dX3_addMiner_5 ?_
  refine zq_cVi (As := []) (rest := []) (wc := (wTa a cI tk th hu od (nI M) ti)) (w1 := (wTa a cI tk th hu od (nI M) ti)) (wr := ([wRm a clk] ++ (wLa a cI cZ cD ki pl tu le ch ca (nI N) ++ (wAl a cI be)) : va_W)) (ws' := (wRo a cI cZ cD ki pl tu le ch ca (nI N) tk th hu od (nI M) ti be clk)) ⟨hx, hb, hml, hown, hts⟩ (c_X2_size l dC dI a cI cZ cD tk th hu od M ti (by omega) H.size) (cwV 0 hts gX3_addMiner_X2_size rfl rfl rfl (by decide +kernel) ⟨Nat.le_of_ble_eq_true rfl, Nat.le_of_ble_eq_true rfl⟩) hK hP hD hS hA [8, 9, 10, 11, 12] [0, 1, 2, 3, 4, 5, 6, 7, 13, 14] [0, 1, 2, 3, 4, 5, 6, 7, 10, 11, 12, 13, 14, 8, 9] rfl rfl rfl rfl (by decide) rfl rfl (ci := 2) rfl 0 rfl rfl hl.1 rfl (Nat.le_of_ble_eq_true rfl) dX3_addMiner_8 ⟨Nat.zero_le _, Nat.zero_le _⟩ (fun H locs hP hD hS => ?_)
  refine lv_bipush (v := 30) hx hb dX3_addMiner_11 (by decide) ?_
  refine lv_icmp_lt (tgt := 26) hx hb dX3_addMiner_13 (by decide) (fun c_0 => ?_) (fun c_0 => ?_)
  · have d_0 := (nI_ltI (a := M) (b := 30) (by omega) (by omega)).mp c_0
    refine lv_aload_n hx hb dX3_addMiner_26 rfl (lv_at hl 0 rfl) ?_
    refine va_get (D := (dC, dI)) (ci := 3) (v := .ref (a 8)) (C := RX3) (T := TX3) (N := 4) hx hb hts hin_3 hown hK hP 0 rfl rfl 1 (by decide) hf_19 (fun _ h9 => h9) rfl dX3_addMiner_27 ?_
    refine lv_iload_n hx hb dX3_addMiner_30 rfl (lv_at hl 1 rfl) ?_
    refine zq_cVi (As := [.int k]) (rest := []) (wc := (wTa a cI tk th hu od (nI M) ti)) (w1 := (wTa a cI (upd tk M k) (upd th M (-1)) hu od (nI (M + 1)) ti)) (wr := ([wRm a clk] ++ (wLa a cI cZ cD ki pl tu le ch ca (nI N) ++ (wAl a cI be)) : va_W)) (ws' := (wRo a cI cZ cD ki pl tu le ch ca (nI N) (upd tk M k) (upd th M (-1)) hu od (nI (M + 1)) ti be clk)) ⟨hx, hb, hml, hown, hts⟩ (c_X2_enter l dC dI a cI cZ cD tk th hu od M ti (by omega) k (by omega) H.size) (cwV 1 hts gX3_addMiner_X2_enter rfl rfl rfl (by decide +kernel) ⟨Nat.le_of_ble_eq_true rfl, Nat.le_of_ble_eq_true rfl⟩) hK hP hD hS hA [8, 9, 10, 11, 12] [0, 1, 2, 3, 4, 5, 6, 7, 13, 14] [0, 1, 2, 3, 4, 5, 6, 7, 10, 11, 12, 13, 14, 8, 9] rfl rfl rfl rfl (by decide) rfl rfl (ci := 2) rfl 0 rfl rfl hl.1 rfl (Nat.le_of_ble_eq_true rfl) dX3_addMiner_31 ⟨Nat.zero_le _, Nat.zero_le _⟩ (fun H locs hP hD hS => ?_)
    exact W.iret (v := nI M) hx hb hr (zq_qi rfl hP hK hD hS) hS.2.2 dX3_addMiner_34
  · have d_0 := Nat.not_lt.mp (fun h => c_0 ((nI_ltI (a := M) (b := 30) (by omega) (by omega)).mpr h))
    exact absurd hf (by omega)

set_option maxHeartbeats 4000000 in
set_option maxRecDepth 100000 in
theorem c_X3_test_bad (l : Launch) (hl0 : l.stackTraces = false) (dC : Nat → ClassId) (dI : Nat → Nat → Nat) (a : Nat → Nat) (cI cZ cD : ClassId) (ki pl tu le : Nat → Int32) (ch ca : Nat → UInt64) (N : Nat) (tk th hu od : Nat → Int32) (M : Nat) (ti : Int32) (be : Nat → Int32) (clk : Int32) (hN : N ≤ 40) (hM : M ≤ 30) (x : Int32) (hx0 : in_b x 0 (nI N - 1) = false) (sz : Nat) : zx_Mi l yX3_test wsX3_test ({ frames := 7, cells := 1, slots := 6, locals := 111 } : Room) (dC, dI) (zq_T cI cZ cD) [.ref (a 0), .int x] (wRo a cI cZ cD ki pl tu le ch ca (nI N) tk th hu od (nI M) ti be clk) zx_I sz := by
  refine vx_ofW (cc := cX3_test) (maxL := 3) (ret := (some .int)) (by decide) rfl ?_
  intro p e s m args below meth c s₁ B hml hno hv
  obtain ⟨rfl, ⟨hsz, hP, hK, hD0⟩, hH, hE⟩ := hv
  have hx := B.exec
  have hb := B.bytes
  have hr := B.returns
  have hts := atoms_spec (ws := wsX3_test) B.pre
  have hown : s.vm.findClass RX3 = some m.cls := findClass_of_methodNamed B.named
  have hlocks := B.notSynchronized
  subst hsz
  have hD := hD0.self (sz := s.heap.size)
  generalize hAe : va_A (wRo a cI cZ cD ki pl tu le ch ca (nI N) tk th hu od (nI M) ti be clk) s.heap.size = A at hD hH ⊢
  have hA : ∀ q : Nat, s.heap.size ≤ q → A q := fun q h => by rw [← hAe]; exact Or.inr h
  have hS : va_S A s.heap s.heap [] := va_S.rf
  have hP : va_P (dC, dI) vwCl (wRo a cI cZ cD ki pl tu le ch ca (nI N) tk th hu od (nI M) ti be clk) s.heap := hP
  have hl := lv_entry ([.ref (a 0), .int x]) (n := 3) (Nat.le_of_ble_eq_true rfl)
  rw [lg_entry_eq]
  generalize (lg_sl ([.ref (a 0), .int x]) ++ List.replicate (3 - (lg_sl ([.ref (a 0), .int x])).length) Slot.unset).toArray = ls at hl ⊢
  have hl : lv_has ls 3 [(0, .ref (a 0)), (1, .int x)] := hl
  refine lv_aload_n hx hb dX3_test_0 rfl (lv_at hl 0 rfl) ?_
  refine lv_iload_n hx hb dX3_test_1 rfl (lv_at hl 1 rfl) ?_
  refine zx_cVv (E := zx_I) (As := [.int x]) (rest := []) (wc := (wRo a cI cZ cD ki pl tu le ch ca (nI N) tk th hu od (nI M) ti be clk)) (wr := ([] : va_W)) ⟨hx, hb, hml, hown, hts⟩ (c_X3_checkLamp_bad l hl0 dC dI a cI cZ cD ki pl tu le ch ca N tk th hu od M ti be clk (by omega) (by omega) x (by omega) s.heap.size) (cwV 1 hts gX3_test_X3_checkLamp rfl rfl rfl (by decide +kernel) ⟨Nat.le_of_ble_eq_true rfl, Nat.le_of_ble_eq_true rfl⟩) hK hP hD hS hA (hH.kept hS.2.1) hE [0, 1, 2, 3, 4, 5, 6, 7, 8, 9, 10, 11, 12, 13, 14] [] [0, 1, 2, 3, 4, 5, 6, 7, 8, 9, 10, 11, 12, 13, 14] rfl rfl rfl rfl (by decide) rfl rfl (ci := 3) rfl 0 rfl rfl hl.1 rfl (Nat.le_of_ble_eq_true rfl) dX3_test_2 ⟨Nat.le_of_ble_eq_true rfl, Nat.le_of_ble_eq_true rfl⟩ (fun H locs q9 ce hP hD hS hce hcv hcl hG => ?_)
  exact zx_on hno hlocks hP hK hD hS hce hcv hcl hG (Nat.le_of_ble_eq_true rfl) (Nat.le_of_ble_eq_true rfl)

set_option maxHeartbeats 4000000 in
set_option maxRecDepth 100000 in
theorem c_X3_mend_bad (l : Launch) (hl0 : l.stackTraces = false) (dC : Nat → ClassId) (dI : Nat → Nat → Nat) (a : Nat → Nat) (cI cZ cD : ClassId) (ki pl tu le : Nat → Int32) (ch ca : Nat → UInt64) (N : Nat) (tk th hu od : Nat → Int32) (M : Nat) (ti : Int32) (be : Nat → Int32) (clk : Int32) (hN : N ≤ 40) (hM : M ≤ 30) (x : Int32) (hx0 : in_b x 0 (nI N - 1) = false) (sz : Nat) : zx_Mi l yX3_mend wsX3_mend ({ frames := 7, cells := 1, slots := 6, locals := 111 } : Room) (dC, dI) (zq_T cI cZ cD) [.ref (a 0), .int x] (wRo a cI cZ cD ki pl tu le ch ca (nI N) tk th hu od (nI M) ti be clk) zx_I sz := by
  refine vx_ofW (cc := cX3_mend) (maxL := 3) (ret := (some .boolean)) (by decide) rfl ?_
  intro p e s m args below meth c s₁ B hml hno hv
  obtain ⟨rfl, ⟨hsz, hP, hK, hD0⟩, hH, hE⟩ := hv
  have hx := B.exec
  have hb := B.bytes
  have hr := B.returns
  have hts := atoms_spec (ws := wsX3_mend) B.pre
  have hown : s.vm.findClass RX3 = some m.cls := findClass_of_methodNamed B.named
  have hlocks := B.notSynchronized
  subst hsz
  have hD := hD0.self (sz := s.heap.size)
  generalize hAe : va_A (wRo a cI cZ cD ki pl tu le ch ca (nI N) tk th hu od (nI M) ti be clk) s.heap.size = A at hD hH ⊢
  have hA : ∀ q : Nat, s.heap.size ≤ q → A q := fun q h => by rw [← hAe]; exact Or.inr h
  have hS : va_S A s.heap s.heap [] := va_S.rf
  have hP : va_P (dC, dI) vwCl (wRo a cI cZ cD ki pl tu le ch ca (nI N) tk th hu od (nI M) ti be clk) s.heap := hP
  have hl := lv_entry ([.ref (a 0), .int x]) (n := 3) (Nat.le_of_ble_eq_true rfl)
  rw [lg_entry_eq]
  generalize (lg_sl ([.ref (a 0), .int x]) ++ List.replicate (3 - (lg_sl ([.ref (a 0), .int x])).length) Slot.unset).toArray = ls at hl ⊢
  have hl : lv_has ls 3 [(0, .ref (a 0)), (1, .int x)] := hl
  refine lv_aload_n hx hb dX3_mend_0 rfl (lv_at hl 0 rfl) ?_
  refine lv_iload_n hx hb dX3_mend_1 rfl (lv_at hl 1 rfl) ?_
  refine zx_cVv (E := zx_I) (As := [.int x]) (rest := []) (wc := (wRo a cI cZ cD ki pl tu le ch ca (nI N) tk th hu od (nI M) ti be clk)) (wr := ([] : va_W)) ⟨hx, hb, hml, hown, hts⟩ (c_X3_checkLamp_bad l hl0 dC dI a cI cZ cD ki pl tu le ch ca N tk th hu od M ti be clk (by omega) (by omega) x (by omega) s.heap.size) (cwV 1 hts gX3_mend_X3_checkLamp rfl rfl rfl (by decide +kernel) ⟨Nat.le_of_ble_eq_true rfl, Nat.le_of_ble_eq_true rfl⟩) hK hP hD hS hA (hH.kept hS.2.1) hE [0, 1, 2, 3, 4, 5, 6, 7, 8, 9, 10, 11, 12, 13, 14] [] [0, 1, 2, 3, 4, 5, 6, 7, 8, 9, 10, 11, 12, 13, 14] rfl rfl rfl rfl (by decide) rfl rfl (ci := 3) rfl 0 rfl rfl hl.1 rfl (Nat.le_of_ble_eq_true rfl) dX3_mend_2 ⟨Nat.le_of_ble_eq_true rfl, Nat.le_of_ble_eq_true rfl⟩ (fun H locs q9 ce hP hD hS hce hcv hcl hG => ?_)
  exact zx_on hno hlocks hP hK hD hS hce hcv hcl hG (Nat.le_of_ble_eq_true rfl) (Nat.le_of_ble_eq_true rfl)

set_option maxHeartbeats 4000000 in
set_option maxRecDepth 100000 in
theorem c_X3_below (l : Launch) (dC : Nat → ClassId) (dI : Nat → Nat → Nat) (a : Nat → Nat) (cI cZ cD : ClassId) (ki pl tu le : Nat → Int32) (ch ca : Nat → UInt64) (N : Nat) (tk th hu od : Nat → Int32) (M : Nat) (ti : Int32) (be : Nat → Int32) (clk : Int32) (hN : N ≤ 40) (hM : M ≤ 30) (sz : Nat) : zq_Mi l yX3_below wsX3_below ({ frames := 1, cells := 0, slots := 0, locals := 22 } : Room) (dC, dI) (zq_T cI cZ cD) [.ref (a 0)] (wRo a cI cZ cD ki pl tu le ch ca (nI N) tk th hu od (nI M) ti be clk) (nI (zf_cnt (ta_p th) M)) (wRo a cI cZ cD ki pl tu le ch ca (nI N) tk th hu od (nI M) ti be clk) sz := by
  refine Met.ofW (cc := cX3_below) (maxL := 1) (ret := (some .int)) (by decide) rfl ?_
  intro p e s m args below meth c s₁ B hml hv
  obtain ⟨rfl, hsz, hP, hK, hD0⟩ := hv
  have hx := B.exec
  have hb := B.bytes
  have hr := B.returns
  have hts := atoms_spec (ws := wsX3_below) B.pre
  have hown : s.vm.findClass RX3 = some m.cls := findClass_of_methodNamed B.named
  have hlocks := B.notSynchronized
  subst hsz
  have hD := hD0.self (sz := s.heap.size)
  generalize hAe : va_A (wRo a cI cZ cD ki pl tu le ch ca (nI N) tk th hu od (nI M) ti be clk) s.heap.size = A at hD ⊢
  have hA : ∀ q : Nat, s.heap.size ≤ q → A q := fun q h => by rw [← hAe]; exact Or.inr h
  have hS : va_S A s.heap s.heap [] := va_S.rf
  have hP : va_P (dC, dI) vwCl (wRo a cI cZ cD ki pl tu le ch ca (nI N) tk th hu od (nI M) ti be clk) s.heap := hP
  have hl := lv_entry ([.ref (a 0)]) (n := 1) (Nat.le_of_ble_eq_true rfl)
  rw [lg_entry_eq]
  generalize (lg_sl ([.ref (a 0)]) ++ List.replicate (1 - (lg_sl ([.ref (a 0)])).length) Slot.unset).toArray = ls at hl ⊢
  have hl : lv_has ls 1 [(0, .ref (a 0))] := hl
  have hf_19 := hts (.fieldLink RX3 19 "LampRoom" "tallies" "LLampRoom$Tallies;") (by decide +kernel)
  have hin_3 : ∀ w ∈ wsX30, w ∈ wsX3_below := by decide +kernel
  refine lv_aload_n hx hb dX3_below_0 rfl (lv_at hl 0 rfl) ?_
  refine va_get (D := (dC, dI)) (ci := 3) (v := .ref (a 8)) (C := RX3) (T := TX3) (N := 4) hx hb hts hin_3 hown hK hP 0 rfl rfl 1 (by decide) hf_19 (fun _ h9 => h9) rfl dX3_below_1 ?_
  refine zq_cVi (As := []) (rest := []) (wc := (wTa a cI tk th hu od (nI M) ti)) (w1 := (wTa a cI tk th hu od (nI M) ti)) (wr := ([wRm a clk] ++ (wLa a cI cZ cD ki pl tu le ch ca (nI N) ++ (wAl a cI be)) : va_W)) (ws' := (wRo a cI cZ cD ki pl tu le ch ca (nI N) tk th hu od (nI M) ti be clk)) ⟨hx, hb, hml, hown, hts⟩ (c_X2_onBoard l dC dI a cI cZ cD tk th hu od M ti (by omega) s.heap.size) (cwV 0 hts gX3_below_X2_onBoard rfl rfl rfl (by decide +kernel) ⟨Nat.le_of_ble_eq_true rfl, Nat.le_of_ble_eq_true rfl⟩) hK hP hD hS hA [8, 9, 10, 11, 12] [0, 1, 2, 3, 4, 5, 6, 7, 13, 14] [0, 1, 2, 3, 4, 5, 6, 7, 10, 11, 12, 13, 14, 8, 9] rfl rfl rfl rfl (by decide) rfl rfl (ci := 2) rfl 0 rfl rfl hl.1 rfl (Nat.le_of_ble_eq_true rfl) dX3_below_4 ⟨Nat.zero_le _, Nat.zero_le _⟩ (fun H locs hP hD hS => ?_)
  exact W.iret (v := nI (zf_cnt (ta_p th) M)) hx hb hr (zq_qi rfl hP hK hD hS) hS.2.2 dX3_below_7

set_option maxHeartbeats 4000000 in
set_option maxRecDepth 100000 in
theorem c_X3_board (l : Launch) (dC : Nat → ClassId) (dI : Nat → Nat → Nat) (a : Nat → Nat) (cI cZ cD : ClassId) (ki pl tu le : Nat → Int32) (ch ca : Nat → UInt64) (N : Nat) (tk th hu od : Nat → Int32) (M : Nat) (ti : Int32) (be : Nat → Int32) (clk : Int32) (hN : N ≤ 40) (hM : M ≤ 30) (x : Int32) (sz : Nat) : zq_Mi l yX3_board wsX3_board ({ frames := 2, cells := 0, slots := 0, locals := 45 } : Room) (dC, dI) (zq_T cI cZ cD) [.ref (a 0), .int x] (wRo a cI cZ cD ki pl tu le ch ca (nI N) tk th hu od (nI M) ti be clk) (zf_find (ta_hit th od M x) M 0) (wRo a cI cZ cD ki pl tu le ch ca (nI N) tk th hu od (nI M) ti be clk) sz := by
  refine Met.ofW (cc := cX3_board) (maxL := 2) (ret := (some .int)) (by decide) rfl ?_
  intro p e s m args below meth c s₁ B hml hv
  obtain ⟨rfl, hsz, hP, hK, hD0⟩ := hv
  have hx := B.exec
  have hb := B.bytes
  have hr := B.returns
  have hts := atoms_spec (ws := wsX3_board) B.pre
  have hown : s.vm.findClass RX3 = some m.cls := findClass_of_methodNamed B.named
  have hlocks := B.notSynchronized
  subst hsz
  have hD := hD0.self (sz := s.heap.size)
  generalize hAe : va_A (wRo a cI cZ cD ki pl tu le ch ca (nI N) tk th hu od (nI M) ti be clk) s.heap.size = A at hD ⊢
  have hA : ∀ q : Nat, s.heap.size ≤ q → A q := fun q h => by rw [← hAe]; exact Or.inr h
  have hS : va_S A s.heap s.heap [] := va_S.rf
  have hP : va_P (dC, dI) vwCl (wRo a cI cZ cD ki pl tu le ch ca (nI N) tk th hu od (nI M) ti be clk) s.heap := hP
  have hl := lv_entry ([.ref (a 0), .int x]) (n := 2) (Nat.le_of_ble_eq_true rfl)
  rw [lg_entry_eq]
  generalize (lg_sl ([.ref (a 0), .int x]) ++ List.replicate (2 - (lg_sl ([.ref (a 0), .int x])).length) Slot.unset).toArray = ls at hl ⊢
  have hl : lv_has ls 2 [(0, .ref (a 0)), (1, .int x)] := hl
  have hf_19 := hts (.fieldLink RX3 19 "LampRoom" "tallies" "LLampRoom$Tallies;") (by decide +kernel)
  have hin_3 : ∀ w ∈ wsX30, w ∈ wsX3_board := by decide +kernel
  refine lv_aload_n hx hb dX3_board_0 rfl (lv_at hl 0 rfl) ?_
  refine va_get (D := (dC, dI)) (ci := 3) (v := .ref (a 8)) (C := RX3) (T := TX3) (N := 4) hx hb hts hin_3 hown hK hP 0 rfl rfl 1 (by decide) hf_19 (fun _ h9 => h9) rfl dX3_board_1 ?_
  refine lv_iload_n hx hb dX3_board_4 rfl (lv_at hl 1 rfl) ?_
  refine zq_cVi (As := [.int x]) (rest := []) (wc := (wTa a cI tk th hu od (nI M) ti)) (w1 := (wTa a cI tk th hu od (nI M) ti)) (wr := ([wRm a clk] ++ (wLa a cI cZ cD ki pl tu le ch ca (nI N) ++ (wAl a cI be)) : va_W)) (ws' := (wRo a cI cZ cD ki pl tu le ch ca (nI N) tk th hu od (nI M) ti be clk)) ⟨hx, hb, hml, hown, hts⟩ (c_X2_onBoardAt l dC dI a cI cZ cD tk th hu od M ti (by omega) x s.heap.size) (cwV 1 hts gX3_board_X2_onBoardAt rfl rfl rfl (by decide +kernel) ⟨Nat.le_of_ble_eq_true rfl, Nat.le_of_ble_eq_true rfl⟩) hK hP hD hS hA [8, 9, 10, 11, 12] [0, 1, 2, 3, 4, 5, 6, 7, 13, 14] [0, 1, 2, 3, 4, 5, 6, 7, 10, 11, 12, 13, 14, 8, 9] rfl rfl rfl rfl (by decide) rfl rfl (ci := 2) rfl 0 rfl rfl hl.1 rfl (Nat.le_of_ble_eq_true rfl) dX3_board_5 ⟨Nat.zero_le _, Nat.zero_le _⟩ (fun H locs hP hD hS => ?_)
  exact W.iret (v := zf_find (ta_hit th od M x) M 0) hx hb hr (zq_qi rfl hP hK hD hS) hS.2.2 dX3_board_8

set_option maxHeartbeats 4000000 in
set_option maxRecDepth 100000 in
theorem c_X3_alarm (l : Launch) (dC : Nat → ClassId) (dI : Nat → Nat → Nat) (a : Nat → Nat) (cI cZ cD : ClassId) (ki pl tu le : Nat → Int32) (ch ca : Nat → UInt64) (N : Nat) (tk th hu od : Nat → Int32) (M : Nat) (ti : Int32) (be : Nat → Int32) (clk : Int32) (hN : N ≤ 40) (hM : M ≤ 30) (x : Int32) (sz : Nat) : zq_Mi l yX3_alarm wsX3_alarm ({ frames := 3, cells := 0, slots := 0, locals := 67 } : Room) (dC, dI) (zq_T cI cZ cD) [.ref (a 0), .int x] (wRo a cI cZ cD ki pl tu le ch ca (nI N) tk th hu od (nI M) ti be clk) (zf_find (al_hit be x) 60 0) (wRo a cI cZ cD ki pl tu le ch ca (nI N) tk th hu od (nI M) ti be clk) sz := by
  refine Met.ofW (cc := cX3_alarm) (maxL := 2) (ret := (some .int)) (by decide) rfl ?_
  intro p e s m args below meth c s₁ B hml hv
  obtain ⟨rfl, hsz, hP, hK, hD0⟩ := hv
  have hx := B.exec
  have hb := B.bytes
  have hr := B.returns
  have hts := atoms_spec (ws := wsX3_alarm) B.pre
  have hown : s.vm.findClass RX3 = some m.cls := findClass_of_methodNamed B.named
  have hlocks := B.notSynchronized
  subst hsz
  have hD := hD0.self (sz := s.heap.size)
  generalize hAe : va_A (wRo a cI cZ cD ki pl tu le ch ca (nI N) tk th hu od (nI M) ti be clk) s.heap.size = A at hD ⊢
  have hA : ∀ q : Nat, s.heap.size ≤ q → A q := fun q h => by rw [← hAe]; exact Or.inr h
  have hS : va_S A s.heap s.heap [] := va_S.rf
  have hP : va_P (dC, dI) vwCl (wRo a cI cZ cD ki pl tu le ch ca (nI N) tk th hu od (nI M) ti be clk) s.heap := hP
  have hl := lv_entry ([.ref (a 0), .int x]) (n := 2) (Nat.le_of_ble_eq_true rfl)
  rw [lg_entry_eq]
  generalize (lg_sl ([.ref (a 0), .int x]) ++ List.replicate (2 - (lg_sl ([.ref (a 0), .int x])).length) Slot.unset).toArray = ls at hl ⊢
  have hl : lv_has ls 2 [(0, .ref (a 0)), (1, .int x)] := hl
  have hf_26 := hts (.fieldLink RX3 26 "LampRoom" "alarms" "LLampRoom$Alarms;") (by decide +kernel)
  have hin_3 : ∀ w ∈ wsX30, w ∈ wsX3_alarm := by decide +kernel
  refine lv_aload_n hx hb dX3_alarm_0 rfl (lv_at hl 0 rfl) ?_
  refine va_get (D := (dC, dI)) (ci := 3) (v := .ref (a 13)) (C := RX3) (T := TX3) (N := 4) hx hb hts hin_3 hown hK hP 0 rfl rfl 2 (by decide) hf_26 (fun _ h9 => h9) rfl dX3_alarm_1 ?_
  refine lv_iload_n hx hb dX3_alarm_4 rfl (lv_at hl 1 rfl) ?_
  refine zq_cVi (As := [.int x]) (rest := []) (wc := (wAl a cI be)) (w1 := (wAl a cI be)) (wr := ([wRm a clk] ++ (wLa a cI cZ cD ki pl tu le ch ca (nI N) ++ (wTa a cI tk th hu od (nI M) ti)) : va_W)) (ws' := (wRo a cI cZ cD ki pl tu le ch ca (nI N) tk th hu od (nI M) ti be clk)) ⟨hx, hb, hml, hown, hts⟩ (c_X0_lastingAt l dC dI a cI cZ cD be x s.heap.size) (cwV 1 hts gX3_alarm_X0_lastingAt rfl rfl rfl (by decide +kernel) ⟨Nat.le_of_ble_eq_true rfl, Nat.le_of_ble_eq_true rfl⟩) hK hP hD hS hA [13, 14] [0, 1, 2, 3, 4, 5, 6, 7, 8, 9, 10, 11, 12] [0, 1, 2, 3, 4, 5, 6, 7, 8, 9, 10, 11, 12, 13, 14] rfl rfl rfl rfl (by decide) rfl rfl (ci := 0) rfl 0 rfl rfl hl.1 rfl (Nat.le_of_ble_eq_true rfl) dX3_alarm_5 ⟨Nat.zero_le _, Nat.zero_le _⟩ (fun H locs hP hD hS => ?_)
  exact W.iret (v := zf_find (al_hit be x) 60 0) hx hb hr (zq_qi rfl hP hK hD hS) hS.2.2 dX3_alarm_8

set_option maxHeartbeats 4000000 in
set_option maxRecDepth 100000 in
theorem c_X3_lampOf_bad (l : Launch) (hl0 : l.stackTraces = false) (dC : Nat → ClassId) (dI : Nat → Nat → Nat) (a : Nat → Nat) (cI cZ cD : ClassId) (ki pl tu le : Nat → Int32) (ch ca : Nat → UInt64) (N : Nat) (tk th hu od : Nat → Int32) (M : Nat) (ti : Int32) (be : Nat → Int32) (clk : Int32) (hN : N ≤ 40) (hM : M ≤ 30) (x : Int32) (hx0 : in_b x 0 (nI M - 1) = false) (sz : Nat) : zx_Mi l yX3_lampOf wsX3_lampOf ({ frames := 7, cells := 1, slots := 6, locals := 111 } : Room) (dC, dI) (zq_T cI cZ cD) [.ref (a 0), .int x] (wRo a cI cZ cD ki pl tu le ch ca (nI N) tk th hu od (nI M) ti be clk) zx_I sz := by
  refine vx_ofW (cc := cX3_lampOf) (maxL := 2) (ret := (some .int)) (by decide) rfl ?_
  intro p e s m args below meth c s₁ B hml hno hv
  obtain ⟨rfl, ⟨hsz, hP, hK, hD0⟩, hH, hE⟩ := hv
  have hx := B.exec
  have hb := B.bytes
  have hr := B.returns
  have hts := atoms_spec (ws := wsX3_lampOf) B.pre
  have hown : s.vm.findClass RX3 = some m.cls := findClass_of_methodNamed B.named
  have hlocks := B.notSynchronized
  subst hsz
  have hD := hD0.self (sz := s.heap.size)
  generalize hAe : va_A (wRo a cI cZ cD ki pl tu le ch ca (nI N) tk th hu od (nI M) ti be clk) s.heap.size = A at hD hH ⊢
  have hA : ∀ q : Nat, s.heap.size ≤ q → A q := fun q h => by rw [← hAe]; exact Or.inr h
  have hS : va_S A s.heap s.heap [] := va_S.rf
  have hP : va_P (dC, dI) vwCl (wRo a cI cZ cD ki pl tu le ch ca (nI N) tk th hu od (nI M) ti be clk) s.heap := hP
  have hl := lv_entry ([.ref (a 0), .int x]) (n := 2) (Nat.le_of_ble_eq_true rfl)
  rw [lg_entry_eq]
  generalize (lg_sl ([.ref (a 0), .int x]) ++ List.replicate (2 - (lg_sl ([.ref (a 0), .int x])).length) Slot.unset).toArray = ls at hl ⊢
  have hl : lv_has ls 2 [(0, .ref (a 0)), (1, .int x)] := hl
  refine lv_aload_n hx hb dX3_lampOf_0 rfl (lv_at hl 0 rfl) ?_
  refine lv_iload_n hx hb dX3_lampOf_1 rfl (lv_at hl 1 rfl) ?_
  refine zx_cVv (E := zx_I) (As := [.int x]) (rest := []) (wc := (wRo a cI cZ cD ki pl tu le ch ca (nI N) tk th hu od (nI M) ti be clk)) (wr := ([] : va_W)) ⟨hx, hb, hml, hown, hts⟩ (c_X3_checkMiner_bad l hl0 dC dI a cI cZ cD ki pl tu le ch ca N tk th hu od M ti be clk (by omega) (by omega) x (by omega) s.heap.size) (cwV 1 hts gX3_lampOf_X3_checkMiner rfl rfl rfl (by decide +kernel) ⟨Nat.le_of_ble_eq_true rfl, Nat.le_of_ble_eq_true rfl⟩) hK hP hD hS hA (hH.kept hS.2.1) hE [0, 1, 2, 3, 4, 5, 6, 7, 8, 9, 10, 11, 12, 13, 14] [] [0, 1, 2, 3, 4, 5, 6, 7, 8, 9, 10, 11, 12, 13, 14] rfl rfl rfl rfl (by decide) rfl rfl (ci := 3) rfl 0 rfl rfl hl.1 rfl (Nat.le_of_ble_eq_true rfl) dX3_lampOf_2 ⟨Nat.le_of_ble_eq_true rfl, Nat.le_of_ble_eq_true rfl⟩ (fun H locs q9 ce hP hD hS hce hcv hcl hG => ?_)
  exact zx_on hno hlocks hP hK hD hS hce hcv hcl hG (Nat.le_of_ble_eq_true rfl) (Nat.le_of_ble_eq_true rfl)

set_option maxHeartbeats 4000000 in
set_option maxRecDepth 100000 in
theorem c_X3_placeOf_bad (l : Launch) (hl0 : l.stackTraces = false) (dC : Nat → ClassId) (dI : Nat → Nat → Nat) (a : Nat → Nat) (cI cZ cD : ClassId) (ki pl tu le : Nat → Int32) (ch ca : Nat → UInt64) (N : Nat) (tk th hu od : Nat → Int32) (M : Nat) (ti : Int32) (be : Nat → Int32) (clk : Int32) (hN : N ≤ 40) (hM : M ≤ 30) (x : Int32) (hx0 : in_b x 0 (nI N - 1) = false) (sz : Nat) : zx_Mi l yX3_placeOf wsX3_placeOf ({ frames := 7, cells := 1, slots := 6, locals := 111 } : Room) (dC, dI) (zq_T cI cZ cD) [.ref (a 0), .int x] (wRo a cI cZ cD ki pl tu le ch ca (nI N) tk th hu od (nI M) ti be clk) zx_I sz := by
  refine vx_ofW (cc := cX3_placeOf) (maxL := 2) (ret := (some .int)) (by decide) rfl ?_
  intro p e s m args below meth c s₁ B hml hno hv
  obtain ⟨rfl, ⟨hsz, hP, hK, hD0⟩, hH, hE⟩ := hv
  have hx := B.exec
  have hb := B.bytes
  have hr := B.returns
  have hts := atoms_spec (ws := wsX3_placeOf) B.pre
  have hown : s.vm.findClass RX3 = some m.cls := findClass_of_methodNamed B.named
  have hlocks := B.notSynchronized
  subst hsz
  have hD := hD0.self (sz := s.heap.size)
  generalize hAe : va_A (wRo a cI cZ cD ki pl tu le ch ca (nI N) tk th hu od (nI M) ti be clk) s.heap.size = A at hD hH ⊢
  have hA : ∀ q : Nat, s.heap.size ≤ q → A q := fun q h => by rw [← hAe]; exact Or.inr h
  have hS : va_S A s.heap s.heap [] := va_S.rf
  have hP : va_P (dC, dI) vwCl (wRo a cI cZ cD ki pl tu le ch ca (nI N) tk th hu od (nI M) ti be clk) s.heap := hP
  have hl := lv_entry ([.ref (a 0), .int x]) (n := 2) (Nat.le_of_ble_eq_true rfl)
  rw [lg_entry_eq]
  generalize (lg_sl ([.ref (a 0), .int x]) ++ List.replicate (2 - (lg_sl ([.ref (a 0), .int x])).length) Slot.unset).toArray = ls at hl ⊢
  have hl : lv_has ls 2 [(0, .ref (a 0)), (1, .int x)] := hl
  refine lv_aload_n hx hb dX3_placeOf_0 rfl (lv_at hl 0 rfl) ?_
  refine lv_iload_n hx hb dX3_placeOf_1 rfl (lv_at hl 1 rfl) ?_
  refine zx_cVv (E := zx_I) (As := [.int x]) (rest := []) (wc := (wRo a cI cZ cD ki pl tu le ch ca (nI N) tk th hu od (nI M) ti be clk)) (wr := ([] : va_W)) ⟨hx, hb, hml, hown, hts⟩ (c_X3_checkLamp_bad l hl0 dC dI a cI cZ cD ki pl tu le ch ca N tk th hu od M ti be clk (by omega) (by omega) x (by omega) s.heap.size) (cwV 1 hts gX3_placeOf_X3_checkLamp rfl rfl rfl (by decide +kernel) ⟨Nat.le_of_ble_eq_true rfl, Nat.le_of_ble_eq_true rfl⟩) hK hP hD hS hA (hH.kept hS.2.1) hE [0, 1, 2, 3, 4, 5, 6, 7, 8, 9, 10, 11, 12, 13, 14] [] [0, 1, 2, 3, 4, 5, 6, 7, 8, 9, 10, 11, 12, 13, 14] rfl rfl rfl rfl (by decide) rfl rfl (ci := 3) rfl 0 rfl rfl hl.1 rfl (Nat.le_of_ble_eq_true rfl) dX3_placeOf_2 ⟨Nat.le_of_ble_eq_true rfl, Nat.le_of_ble_eq_true rfl⟩ (fun H locs q9 ce hP hD hS hce hcv hcl hG => ?_)
  exact zx_on hno hlocks hP hK hD hS hce hcv hcl hG (Nat.le_of_ble_eq_true rfl) (Nat.le_of_ble_eq_true rfl)

set_option maxHeartbeats 4000000 in
set_option maxRecDepth 100000 in
theorem c_X3_ready_bad (l : Launch) (hl0 : l.stackTraces = false) (dC : Nat → ClassId) (dI : Nat → Nat → Nat) (a : Nat → Nat) (cI cZ cD : ClassId) (ki pl tu le : Nat → Int32) (ch ca : Nat → UInt64) (N : Nat) (tk th hu od : Nat → Int32) (M : Nat) (ti : Int32) (be : Nat → Int32) (clk : Int32) (hN : N ≤ 40) (hM : M ≤ 30) (k : Int32) (hk : in_b k 0 2 = false) (sz : Nat) : zx_Mi l yX3_ready wsX3_ready ({ frames := 7, cells := 1, slots := 6, locals := 110 } : Room) (dC, dI) (zq_T cI cZ cD) [.ref (a 0), .int k] (wRo a cI cZ cD ki pl tu le ch ca (nI N) tk th hu od (nI M) ti be clk) zx_A sz := by
  refine vx_ofW (cc := cX3_ready) (maxL := 2) (ret := (some .int)) (by decide) rfl ?_
  intro p e s m args below meth c s₁ B hml hno hv
  obtain ⟨rfl, ⟨hsz, hP, hK, hD0⟩, hH, hE⟩ := hv
  have hx := B.exec
  have hb := B.bytes
  have hr := B.returns
  have hts := atoms_spec (ws := wsX3_ready) B.pre
  have hown : s.vm.findClass RX3 = some m.cls := findClass_of_methodNamed B.named
  have hlocks := B.notSynchronized
  subst hsz
  have hD := hD0.self (sz := s.heap.size)
  generalize hAe : va_A (wRo a cI cZ cD ki pl tu le ch ca (nI N) tk th hu od (nI M) ti be clk) s.heap.size = A at hD hH ⊢
  have hA : ∀ q : Nat, s.heap.size ≤ q → A q := fun q h => by rw [← hAe]; exact Or.inr h
  have hS : va_S A s.heap s.heap [] := va_S.rf
  have hP : va_P (dC, dI) vwCl (wRo a cI cZ cD ki pl tu le ch ca (nI N) tk th hu od (nI M) ti be clk) s.heap := hP
  have hl := lv_entry ([.ref (a 0), .int k]) (n := 2) (Nat.le_of_ble_eq_true rfl)
  rw [lg_entry_eq]
  generalize (lg_sl ([.ref (a 0), .int k]) ++ List.replicate (2 - (lg_sl ([.ref (a 0), .int k])).length) Slot.unset).toArray = ls at hl ⊢
  have hl : lv_has ls 2 [(0, .ref (a 0)), (1, .int k)] := hl
  refine lv_iload_n hx hb dX3_ready_0 rfl (lv_at hl 1 rfl) ?_
  refine zx_cSv (E := zx_A) (As := [.int k]) (rest := []) ⟨hx, hb, hml, hown, hts⟩ (c_X3_checkKind_bad l hl0 dC dI cI cZ cD k (by omega) s.heap.size) (va_cwS 1 hts gX3_ready_X3_checkKind rfl rfl rfl (by decide +kernel) ⟨Nat.le_of_ble_eq_true rfl, Nat.le_of_ble_eq_true rfl⟩) hK hP hD hS hA (hH.kept hS.2.1) hE rfl hl.1 rfl (Nat.le_of_ble_eq_true rfl) dX3_ready_1 ⟨Nat.le_of_ble_eq_true rfl, Nat.le_of_ble_eq_true rfl⟩ (fun H locs q9 ce hP hD hS hce hcv hcl hG => ?_)
  exact zx_on hno hlocks hP hK hD hS hce hcv hcl hG (Nat.le_of_ble_eq_true rfl) (Nat.le_of_ble_eq_true rfl)

set_option maxHeartbeats 4000000 in
set_option maxRecDepth 100000 in
theorem c_X3_lampOf_ok (l : Launch) (dC : Nat → ClassId) (dI : Nat → Nat → Nat) (a : Nat → Nat) (cI cZ cD : ClassId) (ki pl tu le : Nat → Int32) (ch ca : Nat → UInt64) (N : Nat) (tk th hu od : Nat → Int32) (M : Nat) (ti : Int32) (be : Nat → Int32) (clk : Int32) (hN : N ≤ 40) (hM : M ≤ 30) (mi : Nat) (hm : mi < M) (sz : Nat) : zq_Mi l yX3_lampOf wsX3_lampOf ({ frames := 2, cells := 0, slots := 0, locals := 41 } : Room) (dC, dI) (zq_T cI cZ cD) [.ref (a 0), .int (nI mi)] (wRo a cI cZ cD ki pl tu le ch ca (nI N) tk th hu od (nI M) ti be clk) (th mi) (wRo a cI cZ cD ki pl tu le ch ca (nI N) tk th hu od (nI M) ti be clk) sz := by
  refine Met.ofW (cc := cX3_lampOf) (maxL := 2) (ret := (some .int)) (by decide) rfl ?_
  intro p e s m args below meth c s₁ B hml hv
  obtain ⟨rfl, hsz, hP, hK, hD0⟩ := hv
  have hx := B.exec
  have hb := B.bytes
  have hr := B.returns
  have hts := atoms_spec (ws := wsX3_lampOf) B.pre
  have hown : s.vm.findClass RX3 = some m.cls := findClass_of_methodNamed B.named
  have hlocks := B.notSynchronized
  subst hsz
  have hD := hD0.self (sz := s.heap.size)
  generalize hAe : va_A (wRo a cI cZ cD ki pl tu le ch ca (nI N) tk th hu od (nI M) ti be clk) s.heap.size = A at hD ⊢
  have hA : ∀ q : Nat, s.heap.size ≤ q → A q := fun q h => by rw [← hAe]; exact Or.inr h
  have hS : va_S A s.heap s.heap [] := va_S.rf
  have hP : va_P (dC, dI) vwCl (wRo a cI cZ cD ki pl tu le ch ca (nI N) tk th hu od (nI M) ti be clk) s.heap := hP
  have hl := lv_entry ([.ref (a 0), .int (nI mi)]) (n := 2) (Nat.le_of_ble_eq_true rfl)
  rw [lg_entry_eq]
  generalize (lg_sl ([.ref (a 0), .int (nI mi)]) ++ List.replicate (2 - (lg_sl ([.ref (a 0), .int (nI mi)])).length) Slot.unset).toArray = ls at hl ⊢
  have hl : lv_has ls 2 [(0, .ref (a 0)), (1, .int (nI mi))] := hl
  have hf_19 := hts (.fieldLink RX3 19 "LampRoom" "tallies" "LLampRoom$Tallies;") (by decide +kernel)
  have hin_3 : ∀ w ∈ wsX30, w ∈ wsX3_lampOf := by decide +kernel
  refine lv_aload_n hx hb dX3_lampOf_0 rfl (lv_at hl 0 rfl) ?_
  refine lv_iload_n hx hb dX3_lampOf_1 rfl (lv_at hl 1 rfl) ?_
  refine zq_cVv (As := [.int (nI mi)]) (rest := []) (wc := (wRo a cI cZ cD ki pl tu le ch ca (nI N) tk th hu od (nI M) ti be clk)) (w1 := (wRo a cI cZ cD ki pl tu le ch ca (nI N) tk th hu od (nI M) ti be clk)) (wr := ([] : va_W)) (ws' := (wRo a cI cZ cD ki pl tu le ch ca (nI N) tk th hu od (nI M) ti be clk)) ⟨hx, hb, hml, hown, hts⟩ (c_X3_checkMiner_ok l dC dI a cI cZ cD ki pl tu le ch ca N tk th hu od M ti be clk (by omega) (by omega) mi (by omega) s.heap.size) (cwV 1 hts gX3_lampOf_X3_checkMiner rfl rfl rfl (by decide +kernel) ⟨Nat.le_of_ble_eq_true rfl, Nat.le_of_ble_eq_true rfl⟩) hK hP hD hS hA [0, 1, 2, 3, 4, 5, 6, 7, 8, 9, 10, 11, 12, 13, 14] [] [0, 1, 2, 3, 4, 5, 6, 7, 8, 9, 10, 11, 12, 13, 14] rfl rfl rfl rfl (by decide) rfl rfl (ci := 3) rfl 0 rfl rfl hl.1 rfl (Nat.le_of_ble_eq_true rfl) dX3_lampOf_2 ⟨Nat.zero_le _, Nat.zero_le _⟩ (fun H locs hP hD hS => ?_)
  refine lv_aload_n hx hb dX3_lampOf_5 rfl (lv_at hl 0 rfl) ?_
  refine va_get (D := (dC, dI)) (ci := 3) (v := .ref (a 8)) (C := RX3) (T := TX3) (N := 4) hx hb hts hin_3 hown hK hP 0 rfl rfl 1 (by decide) hf_19 (fun _ h9 => h9) rfl dX3_lampOf_6 ?_
  refine lv_iload_n hx hb dX3_lampOf_9 rfl (lv_at hl 1 rfl) ?_
  refine zq_cVi (As := [.int (nI mi)]) (rest := []) (wc := (wTa a cI tk th hu od (nI M) ti)) (w1 := (wTa a cI tk th hu od (nI M) ti)) (wr := ([wRm a clk] ++ (wLa a cI cZ cD ki pl tu le ch ca (nI N) ++ (wAl a cI be)) : va_W)) (ws' := (wRo a cI cZ cD ki pl tu le ch ca (nI N) tk th hu od (nI M) ti be clk)) ⟨hx, hb, hml, hown, hts⟩ (c_X2_lampHeld l dC dI a cI cZ cD tk th hu od M ti (by omega) mi (by omega) H.size) (cwV 1 hts gX3_lampOf_X2_lampHeld rfl rfl rfl (by decide +kernel) ⟨Nat.le_of_ble_eq_true rfl, Nat.le_of_ble_eq_true rfl⟩) hK hP hD hS hA [8, 9, 10, 11, 12] [0, 1, 2, 3, 4, 5, 6, 7, 13, 14] [0, 1, 2, 3, 4, 5, 6, 7, 10, 11, 12, 13, 14, 8, 9] rfl rfl rfl rfl (by decide) rfl rfl (ci := 2) rfl 0 rfl rfl hl.1 rfl (Nat.le_of_ble_eq_true rfl) dX3_lampOf_10 ⟨Nat.zero_le _, Nat.zero_le _⟩ (fun H locs hP hD hS => ?_)
  exact W.iret (v := th mi) hx hb hr (zq_qi rfl hP hK hD hS) hS.2.2 dX3_lampOf_13

set_option maxHeartbeats 4000000 in
set_option maxRecDepth 100000 in
theorem c_X3_hoursBelow_ok (l : Launch) (dC : Nat → ClassId) (dI : Nat → Nat → Nat) (a : Nat → Nat) (cI cZ cD : ClassId) (ki pl tu le : Nat → Int32) (ch ca : Nat → UInt64) (N : Nat) (tk th hu od : Nat → Int32) (M : Nat) (ti : Int32) (be : Nat → Int32) (clk : Int32) (hN : N ≤ 40) (hM : M ≤ 30) (mi : Nat) (hm : mi < M) (sz : Nat) : zq_Mi l yX3_hoursBelow wsX3_hoursBelow ({ frames := 2, cells := 0, slots := 0, locals := 41 } : Room) (dC, dI) (zq_T cI cZ cD) [.ref (a 0), .int (nI mi)] (wRo a cI cZ cD ki pl tu le ch ca (nI N) tk th hu od (nI M) ti be clk) (if th mi = -1 then -1 else clk - hu mi) (wRo a cI cZ cD ki pl tu le ch ca (nI N) tk th hu od (nI M) ti be clk) sz := by
  refine Met.ofW (cc := cX3_hoursBelow) (maxL := 2) (ret := (some .int)) (by decide) rfl ?_
  intro p e s m args below meth c s₁ B hml hv
  obtain ⟨rfl, hsz, hP, hK, hD0⟩ := hv
  have hx := B.exec
  have hb := B.bytes
  have hr := B.returns
  have hts := atoms_spec (ws := wsX3_hoursBelow) B.pre
  have hown : s.vm.findClass RX3 = some m.cls := findClass_of_methodNamed B.named
  have hlocks := B.notSynchronized
  subst hsz
  have hD := hD0.self (sz := s.heap.size)
  generalize hAe : va_A (wRo a cI cZ cD ki pl tu le ch ca (nI N) tk th hu od (nI M) ti be clk) s.heap.size = A at hD ⊢
  have hA : ∀ q : Nat, s.heap.size ≤ q → A q := fun q h => by rw [← hAe]; exact Or.inr h
  have hS : va_S A s.heap s.heap [] := va_S.rf
  have hP : va_P (dC, dI) vwCl (wRo a cI cZ cD ki pl tu le ch ca (nI N) tk th hu od (nI M) ti be clk) s.heap := hP
  have hl := lv_entry ([.ref (a 0), .int (nI mi)]) (n := 2) (Nat.le_of_ble_eq_true rfl)
  rw [lg_entry_eq]
  generalize (lg_sl ([.ref (a 0), .int (nI mi)]) ++ List.replicate (2 - (lg_sl ([.ref (a 0), .int (nI mi)])).length) Slot.unset).toArray = ls at hl ⊢
  have hl : lv_has ls 2 [(0, .ref (a 0)), (1, .int (nI mi))] := hl
  have hf_19 := hts (.fieldLink RX3 19 "LampRoom" "tallies" "LLampRoom$Tallies;") (by decide +kernel)
  have hin_3 : ∀ w ∈ wsX30, w ∈ wsX3_hoursBelow := by decide +kernel
  have hf_30 := hts (.fieldLink RX3 30 "LampRoom" "clock" "I") (by decide +kernel)
  refine lv_aload_n hx hb dX3_hoursBelow_0 rfl (lv_at hl 0 rfl) ?_
  refine lv_iload_n hx hb dX3_hoursBelow_1 rfl (lv_at hl 1 rfl) ?_
  refine zq_cVv (As := [.int (nI mi)]) (rest := []) (wc := (wRo a cI cZ cD ki pl tu le ch ca (nI N) tk th hu od (nI M) ti be clk)) (w1 := (wRo a cI cZ cD ki pl tu le ch ca (nI N) tk th hu od (nI M) ti be clk)) (wr := ([] : va_W)) (ws' := (wRo a cI cZ cD ki pl tu le ch ca (nI N) tk th hu od (nI M) ti be clk)) ⟨hx, hb, hml, hown, hts⟩ (c_X3_checkMiner_ok l dC dI a cI cZ cD ki pl tu le ch ca N tk th hu od M ti be clk (by omega) (by omega) mi (by omega) s.heap.size) (cwV 1 hts gX3_hoursBelow_X3_checkMiner rfl rfl rfl (by decide +kernel) ⟨Nat.le_of_ble_eq_true rfl, Nat.le_of_ble_eq_true rfl⟩) hK hP hD hS hA [0, 1, 2, 3, 4, 5, 6, 7, 8, 9, 10, 11, 12, 13, 14] [] [0, 1, 2, 3, 4, 5, 6, 7, 8, 9, 10, 11, 12, 13, 14] rfl rfl rfl rfl (by decide) rfl rfl (ci := 3) rfl 0 rfl rfl hl.1 rfl (Nat.le_of_ble_eq_true rfl) dX3_hoursBelow_2 ⟨Nat.zero_le _, Nat.zero_le _⟩ (fun H locs hP hD hS => ?_)
  refine lv_aload_n hx hb dX3_hoursBelow_5 rfl (lv_at hl 0 rfl) ?_
  refine va_get (D := (dC, dI)) (ci := 3) (v := .ref (a 8)) (C := RX3) (T := TX3) (N := 4) hx hb hts hin_3 hown hK hP 0 rfl rfl 1 (by decide) hf_19 (fun _ h9 => h9) rfl dX3_hoursBelow_6 ?_
  refine lv_iload_n hx hb dX3_hoursBelow_9 rfl (lv_at hl 1 rfl) ?_
  refine zq_cVi (As := [.int (nI mi)]) (rest := []) (wc := (wTa a cI tk th hu od (nI M) ti)) (w1 := (wTa a cI tk th hu od (nI M) ti)) (wr := ([wRm a clk] ++ (wLa a cI cZ cD ki pl tu le ch ca (nI N) ++ (wAl a cI be)) : va_W)) (ws' := (wRo a cI cZ cD ki pl tu le ch ca (nI N) tk th hu od (nI M) ti be clk)) ⟨hx, hb, hml, hown, hts⟩ (c_X2_lampHeld l dC dI a cI cZ cD tk th hu od M ti (by omega) mi (by omega) H.size) (cwV 1 hts gX3_hoursBelow_X2_lampHeld rfl rfl rfl (by decide +kernel) ⟨Nat.le_of_ble_eq_true rfl, Nat.le_of_ble_eq_true rfl⟩) hK hP hD hS hA [8, 9, 10, 11, 12] [0, 1, 2, 3, 4, 5, 6, 7, 13, 14] [0, 1, 2, 3, 4, 5, 6, 7, 10, 11, 12, 13, 14, 8, 9] rfl rfl rfl rfl (by decide) rfl rfl (ci := 2) rfl 0 rfl rfl hl.1 rfl (Nat.le_of_ble_eq_true rfl) dX3_hoursBelow_10 ⟨Nat.zero_le _, Nat.zero_le _⟩ (fun H locs hP hD hS => ?_)
  refine lv_iconst (v := (-1)) hx hb dX3_hoursBelow_13 (by decide) ?_
  refine lv_icmp_ne (tgt := 21) hx hb dX3_hoursBelow_14 (by decide) (fun c_0 => ?_) (fun c_0 => ?_)
  · refine lv_aload_n hx hb dX3_hoursBelow_21 rfl (lv_at hl 0 rfl) ?_
    refine va_get (D := (dC, dI)) (ci := 3) (v := .int clk) (C := RX3) (T := TX3) (N := 4) hx hb hts hin_3 hown hK hP 0 rfl rfl 3 (by decide) hf_30 (fun _ h9 => h9) rfl dX3_hoursBelow_22 ?_
    refine lv_aload_n hx hb dX3_hoursBelow_25 rfl (lv_at hl 0 rfl) ?_
    refine va_get (D := (dC, dI)) (ci := 3) (v := .ref (a 8)) (C := RX3) (T := TX3) (N := 4) hx hb hts hin_3 hown hK hP 0 rfl rfl 1 (by decide) hf_19 (fun _ h9 => h9) rfl dX3_hoursBelow_26 ?_
    refine lv_iload_n hx hb dX3_hoursBelow_29 rfl (lv_at hl 1 rfl) ?_
    refine zq_cVi (As := [.int (nI mi)]) (rest := [.int clk]) (wc := (wTa a cI tk th hu od (nI M) ti)) (w1 := (wTa a cI tk th hu od (nI M) ti)) (wr := ([wRm a clk] ++ (wLa a cI cZ cD ki pl tu le ch ca (nI N) ++ (wAl a cI be)) : va_W)) (ws' := (wRo a cI cZ cD ki pl tu le ch ca (nI N) tk th hu od (nI M) ti be clk)) ⟨hx, hb, hml, hown, hts⟩ (c_X2_hungAt l dC dI a cI cZ cD tk th hu od M ti (by omega) mi (by omega) H.size) (cwV 1 hts gX3_hoursBelow_X2_hungAt rfl rfl rfl (by decide +kernel) ⟨Nat.le_of_ble_eq_true rfl, Nat.le_of_ble_eq_true rfl⟩) hK hP hD hS hA [8, 9, 10, 11, 12] [0, 1, 2, 3, 4, 5, 6, 7, 13, 14] [0, 1, 2, 3, 4, 5, 6, 7, 10, 11, 12, 13, 14, 8, 9] rfl rfl rfl rfl (by decide) rfl rfl (ci := 2) rfl 0 rfl rfl hl.1 rfl (Nat.le_of_ble_eq_true rfl) dX3_hoursBelow_30 ⟨Nat.zero_le _, Nat.zero_le _⟩ (fun H locs hP hD hS => ?_)
    refine t_isub hx hb dX3_hoursBelow_33 (v := clk - (hu mi)) (rfl) ?_
    exact W.iret (v := clk - (hu mi)) hx hb hr (zq_qi (by first | with_reducible rfl | simp [c_0]) hP hK hD hS) hS.2.2 dX3_hoursBelow_34
  · refine lv_iconst (v := (-1)) hx hb dX3_hoursBelow_17 (by decide) ?_
    refine lv_goto (tgt := 34) hx hb dX3_hoursBelow_18 (by decide) ?_
    exact W.iret (v := (-1)) hx hb hr (zq_qi (by first | with_reducible rfl | simp [c_0]) hP hK hD hS) hS.2.2 dX3_hoursBelow_34

set_option maxHeartbeats 4000000 in
set_option maxRecDepth 100000 in
theorem c_X3_placeOf_ok (l : Launch) (dC : Nat → ClassId) (dI : Nat → Nat → Nat) (a : Nat → Nat) (cI cZ cD : ClassId) (ki pl tu le : Nat → Int32) (ch ca : Nat → UInt64) (N : Nat) (tk th hu od : Nat → Int32) (M : Nat) (ti : Int32) (be : Nat → Int32) (clk : Int32) (hN : N ≤ 40) (hM : M ≤ 30) (j : Nat) (hj : j < N) (sz : Nat) : zq_Mi l yX3_placeOf wsX3_placeOf ({ frames := 2, cells := 0, slots := 0, locals := 41 } : Room) (dC, dI) (zq_T cI cZ cD) [.ref (a 0), .int (nI j)] (wRo a cI cZ cD ki pl tu le ch ca (nI N) tk th hu od (nI M) ti be clk) (pl j) (wRo a cI cZ cD ki pl tu le ch ca (nI N) tk th hu od (nI M) ti be clk) sz := by
  refine Met.ofW (cc := cX3_placeOf) (maxL := 2) (ret := (some .int)) (by decide) rfl ?_
  intro p e s m args below meth c s₁ B hml hv
  obtain ⟨rfl, hsz, hP, hK, hD0⟩ := hv
  have hx := B.exec
  have hb := B.bytes
  have hr := B.returns
  have hts := atoms_spec (ws := wsX3_placeOf) B.pre
  have hown : s.vm.findClass RX3 = some m.cls := findClass_of_methodNamed B.named
  have hlocks := B.notSynchronized
  subst hsz
  have hD := hD0.self (sz := s.heap.size)
  generalize hAe : va_A (wRo a cI cZ cD ki pl tu le ch ca (nI N) tk th hu od (nI M) ti be clk) s.heap.size = A at hD ⊢
  have hA : ∀ q : Nat, s.heap.size ≤ q → A q := fun q h => by rw [← hAe]; exact Or.inr h
  have hS : va_S A s.heap s.heap [] := va_S.rf
  have hP : va_P (dC, dI) vwCl (wRo a cI cZ cD ki pl tu le ch ca (nI N) tk th hu od (nI M) ti be clk) s.heap := hP
  have hl := lv_entry ([.ref (a 0), .int (nI j)]) (n := 2) (Nat.le_of_ble_eq_true rfl)
  rw [lg_entry_eq]
  generalize (lg_sl ([.ref (a 0), .int (nI j)]) ++ List.replicate (2 - (lg_sl ([.ref (a 0), .int (nI j)])).length) Slot.unset).toArray = ls at hl ⊢
  have hl : lv_has ls 2 [(0, .ref (a 0)), (1, .int (nI j))] := hl
  have hf_10 := hts (.fieldLink RX3 10 "LampRoom" "lamps" "LLampRoom$Lamps;") (by decide +kernel)
  have hin_3 : ∀ w ∈ wsX30, w ∈ wsX3_placeOf := by decide +kernel
  refine lv_aload_n hx hb dX3_placeOf_0 rfl (lv_at hl 0 rfl) ?_
  refine lv_iload_n hx hb dX3_placeOf_1 rfl (lv_at hl 1 rfl) ?_
  refine zq_cVv (As := [.int (nI j)]) (rest := []) (wc := (wRo a cI cZ cD ki pl tu le ch ca (nI N) tk th hu od (nI M) ti be clk)) (w1 := (wRo a cI cZ cD ki pl tu le ch ca (nI N) tk th hu od (nI M) ti be clk)) (wr := ([] : va_W)) (ws' := (wRo a cI cZ cD ki pl tu le ch ca (nI N) tk th hu od (nI M) ti be clk)) ⟨hx, hb, hml, hown, hts⟩ (c_X3_checkLamp_ok l dC dI a cI cZ cD ki pl tu le ch ca N tk th hu od M ti be clk (by omega) (by omega) j (by omega) s.heap.size) (cwV 1 hts gX3_placeOf_X3_checkLamp rfl rfl rfl (by decide +kernel) ⟨Nat.le_of_ble_eq_true rfl, Nat.le_of_ble_eq_true rfl⟩) hK hP hD hS hA [0, 1, 2, 3, 4, 5, 6, 7, 8, 9, 10, 11, 12, 13, 14] [] [0, 1, 2, 3, 4, 5, 6, 7, 8, 9, 10, 11, 12, 13, 14] rfl rfl rfl rfl (by decide) rfl rfl (ci := 3) rfl 0 rfl rfl hl.1 rfl (Nat.le_of_ble_eq_true rfl) dX3_placeOf_2 ⟨Nat.zero_le _, Nat.zero_le _⟩ (fun H locs hP hD hS => ?_)
  refine lv_aload_n hx hb dX3_placeOf_5 rfl (lv_at hl 0 rfl) ?_
  refine va_get (D := (dC, dI)) (ci := 3) (v := .ref (a 1)) (C := RX3) (T := TX3) (N := 4) hx hb hts hin_3 hown hK hP 0 rfl rfl 0 (by decide) hf_10 (fun _ h9 => h9) rfl dX3_placeOf_6 ?_
  refine lv_iload_n hx hb dX3_placeOf_9 rfl (lv_at hl 1 rfl) ?_
  refine zq_cVi (As := [.int (nI j)]) (rest := []) (wc := (wLa a cI cZ cD ki pl tu le ch ca (nI N))) (w1 := (wLa a cI cZ cD ki pl tu le ch ca (nI N))) (wr := ([wRm a clk] ++ (wTa a cI tk th hu od (nI M) ti ++ (wAl a cI be)) : va_W)) (ws' := (wRo a cI cZ cD ki pl tu le ch ca (nI N) tk th hu od (nI M) ti be clk)) ⟨hx, hb, hml, hown, hts⟩ (c_X1_placeAt l dC dI a cI cZ cD ki pl tu le ch ca N (by omega) j (by omega) H.size) (cwV 1 hts gX3_placeOf_X1_placeAt rfl rfl rfl (by decide +kernel) ⟨Nat.le_of_ble_eq_true rfl, Nat.le_of_ble_eq_true rfl⟩) hK hP hD hS hA [1, 2, 3, 4, 5, 6, 7] [0, 8, 9, 10, 11, 12, 13, 14] [0, 8, 9, 10, 11, 12, 13, 14, 1, 2, 3, 4, 5, 6, 7] rfl rfl rfl rfl (by decide) rfl rfl (ci := 1) rfl 0 rfl rfl hl.1 rfl (Nat.le_of_ble_eq_true rfl) dX3_placeOf_10 ⟨Nat.zero_le _, Nat.zero_le _⟩ (fun H locs hP hD hS => ?_)
  exact W.iret (v := pl j) hx hb hr (zq_qi rfl hP hK hD hS) hS.2.2 dX3_placeOf_13

set_option maxHeartbeats 4000000 in
set_option maxRecDepth 100000 in
theorem c_X3_turnsOf_ok (l : Launch) (dC : Nat → ClassId) (dI : Nat → Nat → Nat) (a : Nat → Nat) (cI cZ cD : ClassId) (ki pl tu le : Nat → Int32) (ch ca : Nat → UInt64) (N : Nat) (tk th hu od : Nat → Int32) (M : Nat) (ti : Int32) (be : Nat → Int32) (clk : Int32) (hN : N ≤ 40) (hM : M ≤ 30) (j : Nat) (hj : j < N) (sz : Nat) : zq_Mi l yX3_turnsOf wsX3_turnsOf ({ frames := 2, cells := 0, slots := 0, locals := 41 } : Room) (dC, dI) (zq_T cI cZ cD) [.ref (a 0), .int (nI j)] (wRo a cI cZ cD ki pl tu le ch ca (nI N) tk th hu od (nI M) ti be clk) (tu j) (wRo a cI cZ cD ki pl tu le ch ca (nI N) tk th hu od (nI M) ti be clk) sz := by
  refine Met.ofW (cc := cX3_turnsOf) (maxL := 2) (ret := (some .int)) (by decide) rfl ?_
  intro p e s m args below meth c s₁ B hml hv
  obtain ⟨rfl, hsz, hP, hK, hD0⟩ := hv
  have hx := B.exec
  have hb := B.bytes
  have hr := B.returns
  have hts := atoms_spec (ws := wsX3_turnsOf) B.pre
  have hown : s.vm.findClass RX3 = some m.cls := findClass_of_methodNamed B.named
  have hlocks := B.notSynchronized
  subst hsz
  have hD := hD0.self (sz := s.heap.size)
  generalize hAe : va_A (wRo a cI cZ cD ki pl tu le ch ca (nI N) tk th hu od (nI M) ti be clk) s.heap.size = A at hD ⊢
  have hA : ∀ q : Nat, s.heap.size ≤ q → A q := fun q h => by rw [← hAe]; exact Or.inr h
  have hS : va_S A s.heap s.heap [] := va_S.rf
  have hP : va_P (dC, dI) vwCl (wRo a cI cZ cD ki pl tu le ch ca (nI N) tk th hu od (nI M) ti be clk) s.heap := hP
  have hl := lv_entry ([.ref (a 0), .int (nI j)]) (n := 2) (Nat.le_of_ble_eq_true rfl)
  rw [lg_entry_eq]
  generalize (lg_sl ([.ref (a 0), .int (nI j)]) ++ List.replicate (2 - (lg_sl ([.ref (a 0), .int (nI j)])).length) Slot.unset).toArray = ls at hl ⊢
  have hl : lv_has ls 2 [(0, .ref (a 0)), (1, .int (nI j))] := hl
  have hf_10 := hts (.fieldLink RX3 10 "LampRoom" "lamps" "LLampRoom$Lamps;") (by decide +kernel)
  have hin_3 : ∀ w ∈ wsX30, w ∈ wsX3_turnsOf := by decide +kernel
  refine lv_aload_n hx hb dX3_turnsOf_0 rfl (lv_at hl 0 rfl) ?_
  refine lv_iload_n hx hb dX3_turnsOf_1 rfl (lv_at hl 1 rfl) ?_
  refine zq_cVv (As := [.int (nI j)]) (rest := []) (wc := (wRo a cI cZ cD ki pl tu le ch ca (nI N) tk th hu od (nI M) ti be clk)) (w1 := (wRo a cI cZ cD ki pl tu le ch ca (nI N) tk th hu od (nI M) ti be clk)) (wr := ([] : va_W)) (ws' := (wRo a cI cZ cD ki pl tu le ch ca (nI N) tk th hu od (nI M) ti be clk)) ⟨hx, hb, hml, hown, hts⟩ (c_X3_checkLamp_ok l dC dI a cI cZ cD ki pl tu le ch ca N tk th hu od M ti be clk (by omega) (by omega) j (by omega) s.heap.size) (cwV 1 hts gX3_turnsOf_X3_checkLamp rfl rfl rfl (by decide +kernel) ⟨Nat.le_of_ble_eq_true rfl, Nat.le_of_ble_eq_true rfl⟩) hK hP hD hS hA [0, 1, 2, 3, 4, 5, 6, 7, 8, 9, 10, 11, 12, 13, 14] [] [0, 1, 2, 3, 4, 5, 6, 7, 8, 9, 10, 11, 12, 13, 14] rfl rfl rfl rfl (by decide) rfl rfl (ci := 3) rfl 0 rfl rfl hl.1 rfl (Nat.le_of_ble_eq_true rfl) dX3_turnsOf_2 ⟨Nat.zero_le _, Nat.zero_le _⟩ (fun H locs hP hD hS => ?_)
  refine lv_aload_n hx hb dX3_turnsOf_5 rfl (lv_at hl 0 rfl) ?_
  refine va_get (D := (dC, dI)) (ci := 3) (v := .ref (a 1)) (C := RX3) (T := TX3) (N := 4) hx hb hts hin_3 hown hK hP 0 rfl rfl 0 (by decide) hf_10 (fun _ h9 => h9) rfl dX3_turnsOf_6 ?_
  refine lv_iload_n hx hb dX3_turnsOf_9 rfl (lv_at hl 1 rfl) ?_
  refine zq_cVi (As := [.int (nI j)]) (rest := []) (wc := (wLa a cI cZ cD ki pl tu le ch ca (nI N))) (w1 := (wLa a cI cZ cD ki pl tu le ch ca (nI N))) (wr := ([wRm a clk] ++ (wTa a cI tk th hu od (nI M) ti ++ (wAl a cI be)) : va_W)) (ws' := (wRo a cI cZ cD ki pl tu le ch ca (nI N) tk th hu od (nI M) ti be clk)) ⟨hx, hb, hml, hown, hts⟩ (c_X1_turnsAt l dC dI a cI cZ cD ki pl tu le ch ca N (by omega) j (by omega) H.size) (cwV 1 hts gX3_turnsOf_X1_turnsAt rfl rfl rfl (by decide +kernel) ⟨Nat.le_of_ble_eq_true rfl, Nat.le_of_ble_eq_true rfl⟩) hK hP hD hS hA [1, 2, 3, 4, 5, 6, 7] [0, 8, 9, 10, 11, 12, 13, 14] [0, 8, 9, 10, 11, 12, 13, 14, 1, 2, 3, 4, 5, 6, 7] rfl rfl rfl rfl (by decide) rfl rfl (ci := 1) rfl 0 rfl rfl hl.1 rfl (Nat.le_of_ble_eq_true rfl) dX3_turnsOf_10 ⟨Nat.zero_le _, Nat.zero_le _⟩ (fun H locs hP hD hS => ?_)
  exact W.iret (v := tu j) hx hb hr (zq_qi rfl hP hK hD hS) hS.2.2 dX3_turnsOf_13

set_option maxHeartbeats 4000000 in
set_option maxRecDepth 100000 in
theorem c_X3_chargeOf_ok (l : Launch) (dC : Nat → ClassId) (dI : Nat → Nat → Nat) (a : Nat → Nat) (cI cZ cD : ClassId) (ki pl tu le : Nat → Int32) (ch ca : Nat → UInt64) (N : Nat) (tk th hu od : Nat → Int32) (M : Nat) (ti : Int32) (be : Nat → Int32) (clk : Int32) (hN : N ≤ 40) (hM : M ≤ 30) (j : Nat) (hj : j < N) (sz : Nat) : zq_Md l yX3_chargeOf wsX3_chargeOf ({ frames := 2, cells := 0, slots := 0, locals := 41 } : Room) (dC, dI) (zq_T cI cZ cD) [.ref (a 0), .int (nI j)] (wRo a cI cZ cD ki pl tu le ch ca (nI N) tk th hu od (nI M) ti be clk) (ch j) (wRo a cI cZ cD ki pl tu le ch ca (nI N) tk th hu od (nI M) ti be clk) sz := by
  refine Met.ofW (cc := cX3_chargeOf) (maxL := 2) (ret := (some .double)) (by decide) rfl ?_
  intro p e s m args below meth c s₁ B hml hv
  obtain ⟨rfl, hsz, hP, hK, hD0⟩ := hv
  have hx := B.exec
  have hb := B.bytes
  have hr := B.returns
  have hts := atoms_spec (ws := wsX3_chargeOf) B.pre
  have hown : s.vm.findClass RX3 = some m.cls := findClass_of_methodNamed B.named
  have hlocks := B.notSynchronized
  subst hsz
  have hD := hD0.self (sz := s.heap.size)
  generalize hAe : va_A (wRo a cI cZ cD ki pl tu le ch ca (nI N) tk th hu od (nI M) ti be clk) s.heap.size = A at hD ⊢
  have hA : ∀ q : Nat, s.heap.size ≤ q → A q := fun q h => by rw [← hAe]; exact Or.inr h
  have hS : va_S A s.heap s.heap [] := va_S.rf
  have hP : va_P (dC, dI) vwCl (wRo a cI cZ cD ki pl tu le ch ca (nI N) tk th hu od (nI M) ti be clk) s.heap := hP
  have hl := lv_entry ([.ref (a 0), .int (nI j)]) (n := 2) (Nat.le_of_ble_eq_true rfl)
  rw [lg_entry_eq]
  generalize (lg_sl ([.ref (a 0), .int (nI j)]) ++ List.replicate (2 - (lg_sl ([.ref (a 0), .int (nI j)])).length) Slot.unset).toArray = ls at hl ⊢
  have hl : lv_has ls 2 [(0, .ref (a 0)), (1, .int (nI j))] := hl
  have hf_10 := hts (.fieldLink RX3 10 "LampRoom" "lamps" "LLampRoom$Lamps;") (by decide +kernel)
  have hin_3 : ∀ w ∈ wsX30, w ∈ wsX3_chargeOf := by decide +kernel
  refine lv_aload_n hx hb dX3_chargeOf_0 rfl (lv_at hl 0 rfl) ?_
  refine lv_iload_n hx hb dX3_chargeOf_1 rfl (lv_at hl 1 rfl) ?_
  refine zq_cVv (As := [.int (nI j)]) (rest := []) (wc := (wRo a cI cZ cD ki pl tu le ch ca (nI N) tk th hu od (nI M) ti be clk)) (w1 := (wRo a cI cZ cD ki pl tu le ch ca (nI N) tk th hu od (nI M) ti be clk)) (wr := ([] : va_W)) (ws' := (wRo a cI cZ cD ki pl tu le ch ca (nI N) tk th hu od (nI M) ti be clk)) ⟨hx, hb, hml, hown, hts⟩ (c_X3_checkLamp_ok l dC dI a cI cZ cD ki pl tu le ch ca N tk th hu od M ti be clk (by omega) (by omega) j (by omega) s.heap.size) (cwV 1 hts gX3_chargeOf_X3_checkLamp rfl rfl rfl (by decide +kernel) ⟨Nat.le_of_ble_eq_true rfl, Nat.le_of_ble_eq_true rfl⟩) hK hP hD hS hA [0, 1, 2, 3, 4, 5, 6, 7, 8, 9, 10, 11, 12, 13, 14] [] [0, 1, 2, 3, 4, 5, 6, 7, 8, 9, 10, 11, 12, 13, 14] rfl rfl rfl rfl (by decide) rfl rfl (ci := 3) rfl 0 rfl rfl hl.1 rfl (Nat.le_of_ble_eq_true rfl) dX3_chargeOf_2 ⟨Nat.zero_le _, Nat.zero_le _⟩ (fun H locs hP hD hS => ?_)
  refine lv_aload_n hx hb dX3_chargeOf_5 rfl (lv_at hl 0 rfl) ?_
  refine va_get (D := (dC, dI)) (ci := 3) (v := .ref (a 1)) (C := RX3) (T := TX3) (N := 4) hx hb hts hin_3 hown hK hP 0 rfl rfl 0 (by decide) hf_10 (fun _ h9 => h9) rfl dX3_chargeOf_6 ?_
  refine lv_iload_n hx hb dX3_chargeOf_9 rfl (lv_at hl 1 rfl) ?_
  refine zq_cVd (As := [.int (nI j)]) (rest := []) (wc := (wLa a cI cZ cD ki pl tu le ch ca (nI N))) (w1 := (wLa a cI cZ cD ki pl tu le ch ca (nI N))) (wr := ([wRm a clk] ++ (wTa a cI tk th hu od (nI M) ti ++ (wAl a cI be)) : va_W)) (ws' := (wRo a cI cZ cD ki pl tu le ch ca (nI N) tk th hu od (nI M) ti be clk)) ⟨hx, hb, hml, hown, hts⟩ (c_X1_chargeAt l dC dI a cI cZ cD ki pl tu le ch ca N (by omega) j (by omega) H.size) (cwV 1 hts gX3_chargeOf_X1_chargeAt rfl rfl rfl (by decide +kernel) ⟨Nat.le_of_ble_eq_true rfl, Nat.le_of_ble_eq_true rfl⟩) hK hP hD hS hA [1, 2, 3, 4, 5, 6, 7] [0, 8, 9, 10, 11, 12, 13, 14] [0, 8, 9, 10, 11, 12, 13, 14, 1, 2, 3, 4, 5, 6, 7] rfl rfl rfl rfl (by decide) rfl rfl (ci := 1) rfl 0 rfl rfl hl.1 rfl (Nat.le_of_ble_eq_true rfl) dX3_chargeOf_10 ⟨Nat.zero_le _, Nat.zero_le _⟩ (fun H locs hP hD hS => ?_)
  exact W.dret (v := ch j) hx hb hr (zq_qd rfl hP hK hD hS) hS.2.2 dX3_chargeOf_13

set_option maxHeartbeats 4000000 in
set_option maxRecDepth 100000 in
theorem c_X3_capacityOf_ok (l : Launch) (dC : Nat → ClassId) (dI : Nat → Nat → Nat) (a : Nat → Nat) (cI cZ cD : ClassId) (ki pl tu le : Nat → Int32) (ch ca : Nat → UInt64) (N : Nat) (tk th hu od : Nat → Int32) (M : Nat) (ti : Int32) (be : Nat → Int32) (clk : Int32) (hN : N ≤ 40) (hM : M ≤ 30) (j : Nat) (hj : j < N) (sz : Nat) : zq_Md l yX3_capacityOf wsX3_capacityOf ({ frames := 2, cells := 0, slots := 0, locals := 41 } : Room) (dC, dI) (zq_T cI cZ cD) [.ref (a 0), .int (nI j)] (wRo a cI cZ cD ki pl tu le ch ca (nI N) tk th hu od (nI M) ti be clk) (ca j) (wRo a cI cZ cD ki pl tu le ch ca (nI N) tk th hu od (nI M) ti be clk) sz := by
  refine Met.ofW (cc := cX3_capacityOf) (maxL := 2) (ret := (some .double)) (by decide) rfl ?_
  intro p e s m args below meth c s₁ B hml hv
  obtain ⟨rfl, hsz, hP, hK, hD0⟩ := hv
  have hx := B.exec
  have hb := B.bytes
  have hr := B.returns
  have hts := atoms_spec (ws := wsX3_capacityOf) B.pre
  have hown : s.vm.findClass RX3 = some m.cls := findClass_of_methodNamed B.named
  have hlocks := B.notSynchronized
  subst hsz
  have hD := hD0.self (sz := s.heap.size)
  generalize hAe : va_A (wRo a cI cZ cD ki pl tu le ch ca (nI N) tk th hu od (nI M) ti be clk) s.heap.size = A at hD ⊢
  have hA : ∀ q : Nat, s.heap.size ≤ q → A q := fun q h => by rw [← hAe]; exact Or.inr h
  have hS : va_S A s.heap s.heap [] := va_S.rf
  have hP : va_P (dC, dI) vwCl (wRo a cI cZ cD ki pl tu le ch ca (nI N) tk th hu od (nI M) ti be clk) s.heap := hP
  have hl := lv_entry ([.ref (a 0), .int (nI j)]) (n := 2) (Nat.le_of_ble_eq_true rfl)
  rw [lg_entry_eq]
  generalize (lg_sl ([.ref (a 0), .int (nI j)]) ++ List.replicate (2 - (lg_sl ([.ref (a 0), .int (nI j)])).length) Slot.unset).toArray = ls at hl ⊢
  have hl : lv_has ls 2 [(0, .ref (a 0)), (1, .int (nI j))] := hl
  have hf_10 := hts (.fieldLink RX3 10 "LampRoom" "lamps" "LLampRoom$Lamps;") (by decide +kernel)
  have hin_3 : ∀ w ∈ wsX30, w ∈ wsX3_capacityOf := by decide +kernel
  refine lv_aload_n hx hb dX3_capacityOf_0 rfl (lv_at hl 0 rfl) ?_
  refine lv_iload_n hx hb dX3_capacityOf_1 rfl (lv_at hl 1 rfl) ?_
  refine zq_cVv (As := [.int (nI j)]) (rest := []) (wc := (wRo a cI cZ cD ki pl tu le ch ca (nI N) tk th hu od (nI M) ti be clk)) (w1 := (wRo a cI cZ cD ki pl tu le ch ca (nI N) tk th hu od (nI M) ti be clk)) (wr := ([] : va_W)) (ws' := (wRo a cI cZ cD ki pl tu le ch ca (nI N) tk th hu od (nI M) ti be clk)) ⟨hx, hb, hml, hown, hts⟩ (c_X3_checkLamp_ok l dC dI a cI cZ cD ki pl tu le ch ca N tk th hu od M ti be clk (by omega) (by omega) j (by omega) s.heap.size) (cwV 1 hts gX3_capacityOf_X3_checkLamp rfl rfl rfl (by decide +kernel) ⟨Nat.le_of_ble_eq_true rfl, Nat.le_of_ble_eq_true rfl⟩) hK hP hD hS hA [0, 1, 2, 3, 4, 5, 6, 7, 8, 9, 10, 11, 12, 13, 14] [] [0, 1, 2, 3, 4, 5, 6, 7, 8, 9, 10, 11, 12, 13, 14] rfl rfl rfl rfl (by decide) rfl rfl (ci := 3) rfl 0 rfl rfl hl.1 rfl (Nat.le_of_ble_eq_true rfl) dX3_capacityOf_2 ⟨Nat.zero_le _, Nat.zero_le _⟩ (fun H locs hP hD hS => ?_)
  refine lv_aload_n hx hb dX3_capacityOf_5 rfl (lv_at hl 0 rfl) ?_
  refine va_get (D := (dC, dI)) (ci := 3) (v := .ref (a 1)) (C := RX3) (T := TX3) (N := 4) hx hb hts hin_3 hown hK hP 0 rfl rfl 0 (by decide) hf_10 (fun _ h9 => h9) rfl dX3_capacityOf_6 ?_
  refine lv_iload_n hx hb dX3_capacityOf_9 rfl (lv_at hl 1 rfl) ?_
  refine zq_cVd (As := [.int (nI j)]) (rest := []) (wc := (wLa a cI cZ cD ki pl tu le ch ca (nI N))) (w1 := (wLa a cI cZ cD ki pl tu le ch ca (nI N))) (wr := ([wRm a clk] ++ (wTa a cI tk th hu od (nI M) ti ++ (wAl a cI be)) : va_W)) (ws' := (wRo a cI cZ cD ki pl tu le ch ca (nI N) tk th hu od (nI M) ti be clk)) ⟨hx, hb, hml, hown, hts⟩ (c_X1_capacityAt l dC dI a cI cZ cD ki pl tu le ch ca N (by omega) j (by omega) H.size) (cwV 1 hts gX3_capacityOf_X1_capacityAt rfl rfl rfl (by decide +kernel) ⟨Nat.le_of_ble_eq_true rfl, Nat.le_of_ble_eq_true rfl⟩) hK hP hD hS hA [1, 2, 3, 4, 5, 6, 7] [0, 8, 9, 10, 11, 12, 13, 14] [0, 8, 9, 10, 11, 12, 13, 14, 1, 2, 3, 4, 5, 6, 7] rfl rfl rfl rfl (by decide) rfl rfl (ci := 1) rfl 0 rfl rfl hl.1 rfl (Nat.le_of_ble_eq_true rfl) dX3_capacityOf_10 ⟨Nat.zero_le _, Nat.zero_le _⟩ (fun H locs hP hD hS => ?_)
  exact W.dret (v := ca j) hx hb hr (zq_qd rfl hP hK hD hS) hS.2.2 dX3_capacityOf_13

set_option maxHeartbeats 4000000 in
set_option maxRecDepth 100000 in
theorem c_X3_ready_ok (l : Launch) (dC : Nat → ClassId) (dI : Nat → Nat → Nat) (a : Nat → Nat) (cI cZ cD : ClassId) (ki pl tu le : Nat → Int32) (ch ca : Nat → UInt64) (N : Nat) (tk th hu od : Nat → Int32) (M : Nat) (ti : Int32) (be : Nat → Int32) (clk : Int32) (hN : N ≤ 40) (hM : M ≤ 30) (k : Int32) (hk : in_b k 0 2 = true) (sz : Nat) : zq_Mi l yX3_ready wsX3_ready ({ frames := 2, cells := 0, slots := 0, locals := 45 } : Room) (dC, dI) (zq_T cI cZ cD) [.ref (a 0), .int k] (wRo a cI cZ cD ki pl tu le ch ca (nI N) tk th hu od (nI M) ti be clk) (nI (zf_cnt (la_is ki pl ch k) N)) (wRo a cI cZ cD ki pl tu le ch ca (nI N) tk th hu od (nI M) ti be clk) sz := by
  refine Met.ofW (cc := cX3_ready) (maxL := 2) (ret := (some .int)) (by decide) rfl ?_
  intro p e s m args below meth c s₁ B hml hv
  obtain ⟨rfl, hsz, hP, hK, hD0⟩ := hv
  have hx := B.exec
  have hb := B.bytes
  have hr := B.returns
  have hts := atoms_spec (ws := wsX3_ready) B.pre
  have hown : s.vm.findClass RX3 = some m.cls := findClass_of_methodNamed B.named
  have hlocks := B.notSynchronized
  subst hsz
  have hD := hD0.self (sz := s.heap.size)
  generalize hAe : va_A (wRo a cI cZ cD ki pl tu le ch ca (nI N) tk th hu od (nI M) ti be clk) s.heap.size = A at hD ⊢
  have hA : ∀ q : Nat, s.heap.size ≤ q → A q := fun q h => by rw [← hAe]; exact Or.inr h
  have hS : va_S A s.heap s.heap [] := va_S.rf
  have hP : va_P (dC, dI) vwCl (wRo a cI cZ cD ki pl tu le ch ca (nI N) tk th hu od (nI M) ti be clk) s.heap := hP
  have hl := lv_entry ([.ref (a 0), .int k]) (n := 2) (Nat.le_of_ble_eq_true rfl)
  rw [lg_entry_eq]
  generalize (lg_sl ([.ref (a 0), .int k]) ++ List.replicate (2 - (lg_sl ([.ref (a 0), .int k])).length) Slot.unset).toArray = ls at hl ⊢
  have hl : lv_has ls 2 [(0, .ref (a 0)), (1, .int k)] := hl
  have hf_10 := hts (.fieldLink RX3 10 "LampRoom" "lamps" "LLampRoom$Lamps;") (by decide +kernel)
  have hin_3 : ∀ w ∈ wsX30, w ∈ wsX3_ready := by decide +kernel
  refine lv_iload_n hx hb dX3_ready_0 rfl (lv_at hl 1 rfl) ?_
  refine zq_cSv (As := [.int k]) (rest := []) ⟨hx, hb, hml, hown, hts⟩ (c_X3_checkKind_ok l k (by omega)) (va_cwS 1 hts gX3_ready_X3_checkKind rfl rfl rfl (by decide +kernel) ⟨Nat.le_of_ble_eq_true rfl, Nat.le_of_ble_eq_true rfl⟩) hP hS rfl hl.1 rfl (Nat.le_of_ble_eq_true rfl) dX3_ready_1 ⟨Nat.zero_le _, Nat.zero_le _⟩ (fun H locs hP hS => ?_)
  refine lv_aload_n hx hb dX3_ready_4 rfl (lv_at hl 0 rfl) ?_
  refine va_get (D := (dC, dI)) (ci := 3) (v := .ref (a 1)) (C := RX3) (T := TX3) (N := 4) hx hb hts hin_3 hown hK hP 0 rfl rfl 0 (by decide) hf_10 (fun _ h9 => h9) rfl dX3_ready_5 ?_
  refine lv_iload_n hx hb dX3_ready_8 rfl (lv_at hl 1 rfl) ?_
  refine zq_cVi (As := [.int k]) (rest := []) (wc := (wLa a cI cZ cD ki pl tu le ch ca (nI N))) (w1 := (wLa a cI cZ cD ki pl tu le ch ca (nI N))) (wr := ([wRm a clk] ++ (wTa a cI tk th hu od (nI M) ti ++ (wAl a cI be)) : va_W)) (ws' := (wRo a cI cZ cD ki pl tu le ch ca (nI N) tk th hu od (nI M) ti be clk)) ⟨hx, hb, hml, hown, hts⟩ (c_X1_countIssuable l dC dI a cI cZ cD ki pl tu le ch ca N (by omega) k H.size) (cwV 1 hts gX3_ready_X1_countIssuable rfl rfl rfl (by decide +kernel) ⟨Nat.le_of_ble_eq_true rfl, Nat.le_of_ble_eq_true rfl⟩) hK hP hD hS hA [1, 2, 3, 4, 5, 6, 7] [0, 8, 9, 10, 11, 12, 13, 14] [0, 8, 9, 10, 11, 12, 13, 14, 1, 2, 3, 4, 5, 6, 7] rfl rfl rfl rfl (by decide) rfl rfl (ci := 1) rfl 0 rfl rfl hl.1 rfl (Nat.le_of_ble_eq_true rfl) dX3_ready_9 ⟨Nat.zero_le _, Nat.zero_le _⟩ (fun H locs hP hD hS => ?_)
  exact W.iret (v := nI (zf_cnt (la_is ki pl ch k) N)) hx hb hr (zq_qi rfl hP hK hD hS) hS.2.2 dX3_ready_12

set_option maxHeartbeats 4000000 in
set_option maxRecDepth 100000 in
theorem c_X3_lightLeft_off (l : Launch) (dC : Nat → ClassId) (dI : Nat → Nat → Nat) (a : Nat → Nat) (cI cZ cD : ClassId) (ki pl tu le : Nat → Int32) (ch ca : Nat → UInt64) (N : Nat) (tk th hu od : Nat → Int32) (M : Nat) (ti : Int32) (be : Nat → Int32) (clk : Int32) (hN : N ≤ 40) (hM : M ≤ 30) (mi : Nat) (hm : mi < M) (hla : th mi = -1) (sz : Nat) : zq_Mi l yX3_lightLeft wsX3_lightLeft ({ frames := 2, cells := 0, slots := 0, locals := 41 } : Room) (dC, dI) (zq_T cI cZ cD) [.ref (a 0), .int (nI mi)] (wRo a cI cZ cD ki pl tu le ch ca (nI N) tk th hu od (nI M) ti be clk) (-1) (wRo a cI cZ cD ki pl tu le ch ca (nI N) tk th hu od (nI M) ti be clk) sz := by
  refine Met.ofW (cc := cX3_lightLeft) (maxL := 3) (ret := (some .int)) (by decide) rfl ?_
  intro p e s m args below meth c s₁ B hml hv
  obtain ⟨rfl, hsz, hP, hK, hD0⟩ := hv
  have hx := B.exec
  have hb := B.bytes
  have hr := B.returns
  have hts := atoms_spec (ws := wsX3_lightLeft) B.pre
  have hown : s.vm.findClass RX3 = some m.cls := findClass_of_methodNamed B.named
  have hlocks := B.notSynchronized
  subst hsz
  have hD := hD0.self (sz := s.heap.size)
  generalize hAe : va_A (wRo a cI cZ cD ki pl tu le ch ca (nI N) tk th hu od (nI M) ti be clk) s.heap.size = A at hD ⊢
  have hA : ∀ q : Nat, s.heap.size ≤ q → A q := fun q h => by rw [← hAe]; exact Or.inr h
  have hS : va_S A s.heap s.heap [] := va_S.rf
  have hP : va_P (dC, dI) vwCl (wRo a cI cZ cD ki pl tu le ch ca (nI N) tk th hu od (nI M) ti be clk) s.heap := hP
  have hl := lv_entry ([.ref (a 0), .int (nI mi)]) (n := 3) (Nat.le_of_ble_eq_true rfl)
  rw [lg_entry_eq]
  generalize (lg_sl ([.ref (a 0), .int (nI mi)]) ++ List.replicate (3 - (lg_sl ([.ref (a 0), .int (nI mi)])).length) Slot.unset).toArray = ls at hl ⊢
  have hl : lv_has ls 3 [(0, .ref (a 0)), (1, .int (nI mi))] := hl
  have hf_19 := hts (.fieldLink RX3 19 "LampRoom" "tallies" "LLampRoom$Tallies;") (by decide +kernel)
  have hin_3 : ∀ w ∈ wsX30, w ∈ wsX3_lightLeft := by decide +kernel
  refine lv_aload_n hx hb dX3_lightLeft_0 rfl (lv_at hl 0 rfl) ?_
  refine lv_iload_n hx hb dX3_lightLeft_1 rfl (lv_at hl 1 rfl) ?_
  refine zq_cVv (As := [.int (nI mi)]) (rest := []) (wc := (wRo a cI cZ cD ki pl tu le ch ca (nI N) tk th hu od (nI M) ti be clk)) (w1 := (wRo a cI cZ cD ki pl tu le ch ca (nI N) tk th hu od (nI M) ti be clk)) (wr := ([] : va_W)) (ws' := (wRo a cI cZ cD ki pl tu le ch ca (nI N) tk th hu od (nI M) ti be clk)) ⟨hx, hb, hml, hown, hts⟩ (c_X3_checkMiner_ok l dC dI a cI cZ cD ki pl tu le ch ca N tk th hu od M ti be clk (by omega) (by omega) mi (by omega) s.heap.size) (cwV 1 hts gX3_lightLeft_X3_checkMiner rfl rfl rfl (by decide +kernel) ⟨Nat.le_of_ble_eq_true rfl, Nat.le_of_ble_eq_true rfl⟩) hK hP hD hS hA [0, 1, 2, 3, 4, 5, 6, 7, 8, 9, 10, 11, 12, 13, 14] [] [0, 1, 2, 3, 4, 5, 6, 7, 8, 9, 10, 11, 12, 13, 14] rfl rfl rfl rfl (by decide) rfl rfl (ci := 3) rfl 0 rfl rfl hl.1 rfl (Nat.le_of_ble_eq_true rfl) dX3_lightLeft_2 ⟨Nat.zero_le _, Nat.zero_le _⟩ (fun H locs hP hD hS => ?_)
  refine lv_aload_n hx hb dX3_lightLeft_5 rfl (lv_at hl 0 rfl) ?_
  refine va_get (D := (dC, dI)) (ci := 3) (v := .ref (a 8)) (C := RX3) (T := TX3) (N := 4) hx hb hts hin_3 hown hK hP 0 rfl rfl 1 (by decide) hf_19 (fun _ h9 => h9) rfl dX3_lightLeft_6 ?_
  refine lv_iload_n hx hb dX3_lightLeft_9 rfl (lv_at hl 1 rfl) ?_
  refine zq_cVi (As := [.int (nI mi)]) (rest := []) (wc := (wTa a cI tk th hu od (nI M) ti)) (w1 := (wTa a cI tk th hu od (nI M) ti)) (wr := ([wRm a clk] ++ (wLa a cI cZ cD ki pl tu le ch ca (nI N) ++ (wAl a cI be)) : va_W)) (ws' := (wRo a cI cZ cD ki pl tu le ch ca (nI N) tk th hu od (nI M) ti be clk)) ⟨hx, hb, hml, hown, hts⟩ (c_X2_lampHeld l dC dI a cI cZ cD tk th hu od M ti (by omega) mi (by omega) H.size) (cwV 1 hts gX3_lightLeft_X2_lampHeld rfl rfl rfl (by decide +kernel) ⟨Nat.le_of_ble_eq_true rfl, Nat.le_of_ble_eq_true rfl⟩) hK hP hD hS hA [8, 9, 10, 11, 12] [0, 1, 2, 3, 4, 5, 6, 7, 13, 14] [0, 1, 2, 3, 4, 5, 6, 7, 10, 11, 12, 13, 14, 8, 9] rfl rfl rfl rfl (by decide) rfl rfl (ci := 2) rfl 0 rfl rfl hl.1 rfl (Nat.le_of_ble_eq_true rfl) dX3_lightLeft_10 ⟨Nat.zero_le _, Nat.zero_le _⟩ (fun H locs hP hD hS => ?_)
  refine lv_istore_n (lv' := [(2, .int (th mi)), (0, .ref (a 0)), (1, .int (nI mi))]) hx hb dX3_lightLeft_13 rfl hl (by decide) rfl (fun ls hl => ?_)
  refine lv_iload_n hx hb dX3_lightLeft_14 rfl (lv_at hl 0 rfl) ?_
  refine lv_iconst (v := (-1)) hx hb dX3_lightLeft_15 (by decide) ?_
  refine lv_icmp_ne (tgt := 23) hx hb dX3_lightLeft_16 (by decide) (fun c_0 => ?_) (fun c_0 => ?_)
  · exact absurd hla c_0
  · refine lv_iconst (v := (-1)) hx hb dX3_lightLeft_19 (by decide) ?_
    refine lv_goto (tgt := 32) hx hb dX3_lightLeft_20 (by decide) ?_
    exact W.iret (v := (-1)) hx hb hr (zq_qi rfl hP hK hD hS) hS.2.2 dX3_lightLeft_32

set_option maxHeartbeats 4000000 in
set_option maxRecDepth 100000 in
theorem c_X3_spares (l : Launch) (dC : Nat → ClassId) (dI : Nat → Nat → Nat) (a : Nat → Nat) (cI cZ cD : ClassId) (ki pl tu le : Nat → Int32) (ch ca : Nat → UInt64) (N : Nat) (tk th hu od : Nat → Int32) (M : Nat) (ti : Int32) (be : Nat → Int32) (clk : Int32) (hN : N ≤ 40) (hM : M ≤ 30) (hlm : ∀ mi, mi < M → ¬ th mi = -1 → ∃ j, j < N ∧ th mi = nI j) (sz : Nat) : zq_Mi l yX3_spares wsX3_spares ({ frames := 1, cells := 0, slots := 0, locals := 21 } : Room) (dC, dI) (zq_T cI cZ cD) [.ref (a 0)] (wRo a cI cZ cD ki pl tu le ch ca (nI N) tk th hu od (nI M) ti be clk) (nI (zf_cnt (sp_a ki tk th) M)) (wRo a cI cZ cD ki pl tu le ch ca (nI N) tk th hu od (nI M) ti be clk) sz := by
  refine Met.ofW (cc := cX3_spares) (maxL := 4) (ret := (some .int)) (by decide) rfl ?_
  intro p e s m args below meth c s₁ B hml hv
  obtain ⟨rfl, hsz, hP, hK, hD0⟩ := hv
  have hx := B.exec
  have hb := B.bytes
  have hr := B.returns
  have hts := atoms_spec (ws := wsX3_spares) B.pre
  have hown : s.vm.findClass RX3 = some m.cls := findClass_of_methodNamed B.named
  have hlocks := B.notSynchronized
  subst hsz
  have hD := hD0.self (sz := s.heap.size)
  generalize hAe : va_A (wRo a cI cZ cD ki pl tu le ch ca (nI N) tk th hu od (nI M) ti be clk) s.heap.size = A at hD ⊢
  have hA : ∀ q : Nat, s.heap.size ≤ q → A q := fun q h => by rw [← hAe]; exact Or.inr h
  have hS : va_S A s.heap s.heap [] := va_S.rf
  have hP : va_P (dC, dI) vwCl (wRo a cI cZ cD ki pl tu le ch ca (nI N) tk th hu od (nI M) ti be clk) s.heap := hP
  have hl := lv_entry ([.ref (a 0)]) (n := 4) (Nat.le_of_ble_eq_true rfl)
  rw [lg_entry_eq]
  generalize (lg_sl ([.ref (a 0)]) ++ List.replicate (4 - (lg_sl ([.ref (a 0)])).length) Slot.unset).toArray = ls at hl ⊢
  have hl : lv_has ls 4 [(0, .ref (a 0))] := hl
  have hf_19 := hts (.fieldLink RX3 19 "LampRoom" "tallies" "LLampRoom$Tallies;") (by decide +kernel)
  have hin_3 : ∀ w ∈ wsX30, w ∈ wsX3_spares := by decide +kernel
  have hf_10 := hts (.fieldLink RX3 10 "LampRoom" "lamps" "LLampRoom$Lamps;") (by decide +kernel)
  refine lv_iconst (v := 0) hx hb dX3_spares_0 (by decide) ?_
  refine lv_istore_n (lv' := [(1, .int 0), (0, .ref (a 0))]) hx hb dX3_spares_1 rfl hl (by decide) rfl (fun ls hl => ?_)
  refine lv_iconst (v := 0) hx hb dX3_spares_2 (by decide) ?_
  refine lv_istore_n (lv' := [(2, .int 0), (1, .int 0), (0, .ref (a 0))]) hx hb dX3_spares_3 rfl hl (by decide) rfl (fun ls hl => ?_)
  refine zq_loop 4 M (fun i H locs ls => va_P (dC, dI) vwCl (wRo a cI cZ cD ki pl tu le ch ca (nI N) tk th hu od (nI M) ti be clk) H ∧ va_D A (wRo a cI cZ cD ki pl tu le ch ca (nI N) tk th hu od (nI M) ti be clk) ∧ va_S A s.heap H locs ∧ lv_has ls 4 [(1, .int (nI (zf_cnt (sp_a ki tk th) i))), (2, .int (nI i)), (0, .ref (a 0))]) ?_ 0 (by omega) _ _ _ ⟨hP, hD, hS, lv_sub hl [1, 0, 2] rfl⟩
  intro i hi_i ih_i H locs ls hh
  obtain ⟨hP, hD, hS, hl⟩ := hh
  refine lv_iload_n hx hb dX3_spares_4 rfl (lv_at hl 1 rfl) ?_
  refine lv_aload_n hx hb dX3_spares_5 rfl (lv_at hl 2 rfl) ?_
  refine va_get (D := (dC, dI)) (ci := 3) (v := .ref (a 8)) (C := RX3) (T := TX3) (N := 4) hx hb hts hin_3 hown hK hP 0 rfl rfl 1 (by decide) hf_19 (fun _ h9 => h9) rfl dX3_spares_6 ?_
  refine zq_cVi (As := []) (rest := [.int (nI i)]) (wc := (wTa a cI tk th hu od (nI M) ti)) (w1 := (wTa a cI tk th hu od (nI M) ti)) (wr := ([wRm a clk] ++ (wLa a cI cZ cD ki pl tu le ch ca (nI N) ++ (wAl a cI be)) : va_W)) (ws' := (wRo a cI cZ cD ki pl tu le ch ca (nI N) tk th hu od (nI M) ti be clk)) ⟨hx, hb, hml, hown, hts⟩ (c_X2_size l dC dI a cI cZ cD tk th hu od M ti (by omega) H.size) (cwV 0 hts gX3_spares_X2_size rfl rfl rfl (by decide +kernel) ⟨Nat.le_of_ble_eq_true rfl, Nat.le_of_ble_eq_true rfl⟩) hK hP hD hS hA [8, 9, 10, 11, 12] [0, 1, 2, 3, 4, 5, 6, 7, 13, 14] [0, 1, 2, 3, 4, 5, 6, 7, 10, 11, 12, 13, 14, 8, 9] rfl rfl rfl rfl (by decide) rfl rfl (ci := 2) rfl 0 rfl rfl hl.1 rfl (Nat.le_of_ble_eq_true rfl) dX3_spares_9 ⟨Nat.zero_le _, Nat.zero_le _⟩ (fun H locs hP hD hS => ?_)
  refine lv_icmp_ge (tgt := 57) hx hb dX3_spares_12 (by decide) (fun c_0 => ?_) (fun c_0 => ?_)
  · have d_0 := (nI_leI (a := M) (b := i) (by omega) (by omega)).mp c_0
    have ei_i : i = M := by omega
    refine lv_iload_n hx hb dX3_spares_57 rfl (lv_at hl 0 rfl) ?_
    exact W.iret (v := nI (zf_cnt (sp_a ki tk th) i)) hx hb hr (zq_qi (by first | with_reducible rfl | simp [d_0, ei_i]) hP hK hD hS) hS.2.2 dX3_spares_58
  · have d_0 := Nat.not_le.mp (fun h => c_0 ((nI_leI (a := M) (b := i) (by omega) (by omega)).mpr h))
    refine lv_aload_n hx hb dX3_spares_15 rfl (lv_at hl 2 rfl) ?_
    refine va_get (D := (dC, dI)) (ci := 3) (v := .ref (a 8)) (C := RX3) (T := TX3) (N := 4) hx hb hts hin_3 hown hK hP 0 rfl rfl 1 (by decide) hf_19 (fun _ h9 => h9) rfl dX3_spares_16 ?_
    refine lv_iload_n hx hb dX3_spares_19 rfl (lv_at hl 1 rfl) ?_
    refine zq_cVi (As := [.int (nI i)]) (rest := []) (wc := (wTa a cI tk th hu od (nI M) ti)) (w1 := (wTa a cI tk th hu od (nI M) ti)) (wr := ([wRm a clk] ++ (wLa a cI cZ cD ki pl tu le ch ca (nI N) ++ (wAl a cI be)) : va_W)) (ws' := (wRo a cI cZ cD ki pl tu le ch ca (nI N) tk th hu od (nI M) ti be clk)) ⟨hx, hb, hml, hown, hts⟩ (c_X2_lampHeld l dC dI a cI cZ cD tk th hu od M ti (by omega) i (by omega) H.size) (cwV 1 hts gX3_spares_X2_lampHeld rfl rfl rfl (by decide +kernel) ⟨Nat.le_of_ble_eq_true rfl, Nat.le_of_ble_eq_true rfl⟩) hK hP hD hS hA [8, 9, 10, 11, 12] [0, 1, 2, 3, 4, 5, 6, 7, 13, 14] [0, 1, 2, 3, 4, 5, 6, 7, 10, 11, 12, 13, 14, 8, 9] rfl rfl rfl rfl (by decide) rfl rfl (ci := 2) rfl 0 rfl rfl hl.1 rfl (Nat.le_of_ble_eq_true rfl) dX3_spares_20 ⟨Nat.zero_le _, Nat.zero_le _⟩ (fun H locs hP hD hS => ?_)
    refine lv_istore_n (lv' := [(3, .int (th i)), (1, .int (nI (zf_cnt (sp_a ki tk th) i))), (2, .int (nI i)), (0, .ref (a 0))]) hx hb dX3_spares_23 rfl hl (by decide) rfl (fun ls hl => ?_)
    refine lv_iload_n hx hb dX3_spares_24 rfl (lv_at hl 0 rfl) ?_
    refine lv_iconst (v := (-1)) hx hb dX3_spares_25 (by decide) ?_
    refine lv_icmp_eq (tgt := 51) hx hb dX3_spares_26 (by decide) (fun c_1 => ?_) (fun c_1 => ?_)
    · refine lv_iinc (v := nI (i + 1)) (lv' := [(2, .int (nI (i + 1))), (3, .int (th i)), (1, .int (nI (zf_cnt (sp_a ki tk th) i))), (0, .ref (a 0))]) hx hb dX3_spares_51 hl (k := 2) rfl (nI_add _ 1) (by decide) rfl (fun ls hl => ?_)
      refine lv_goto (tgt := 4) hx hb dX3_spares_54 (by decide) ?_
      have e_2 : (nI (zf_cnt (sp_a ki tk th) (i + 1))) = (nI (zf_cnt (sp_a ki tk th) i)) := by rw [zf_cnt_f (by simp [sp_a, d_0, c_1])]
      exact ih_i _ _ _ (by omega) ⟨(by (try rw [e_2]); exact hP), (by (try rw [e_2]); exact hD), hS, (by (try rw [e_2]); exact lv_sub hl [2, 0, 3] rfl)⟩
    · refine lv_aload_n hx hb dX3_spares_29 rfl (lv_at hl 3 rfl) ?_
      refine va_get (D := (dC, dI)) (ci := 3) (v := .ref (a 1)) (C := RX3) (T := TX3) (N := 4) hx hb hts hin_3 hown hK hP 0 rfl rfl 0 (by decide) hf_10 (fun _ h9 => h9) rfl dX3_spares_30 ?_
      refine lv_iload_n hx hb dX3_spares_33 rfl (lv_at hl 0 rfl) ?_
      obtain ⟨jl, hjl, elm⟩ := hlm i (by omega) c_1
      have clm : (th i).toNatClampNeg = jl := by rw [elm]; exact nI_clamp (by omega)
      rw [elm]
      refine zq_cVi (As := [.int (nI jl)]) (rest := []) (wc := (wLa a cI cZ cD ki pl tu le ch ca (nI N))) (w1 := (wLa a cI cZ cD ki pl tu le ch ca (nI N))) (wr := ([wRm a clk] ++ (wTa a cI tk th hu od (nI M) ti ++ (wAl a cI be)) : va_W)) (ws' := (wRo a cI cZ cD ki pl tu le ch ca (nI N) tk th hu od (nI M) ti be clk)) ⟨hx, hb, hml, hown, hts⟩ (c_X1_kindAt l dC dI a cI cZ cD ki pl tu le ch ca N (by omega) jl (by omega) H.size) (cwV 1 hts gX3_spares_X1_kindAt rfl rfl rfl (by decide +kernel) ⟨Nat.le_of_ble_eq_true rfl, Nat.le_of_ble_eq_true rfl⟩) hK hP hD hS hA [1, 2, 3, 4, 5, 6, 7] [0, 8, 9, 10, 11, 12, 13, 14] [0, 8, 9, 10, 11, 12, 13, 14, 1, 2, 3, 4, 5, 6, 7] rfl rfl rfl rfl (by decide) rfl rfl (ci := 1) rfl 0 rfl rfl hl.1 rfl (Nat.le_of_ble_eq_true rfl) dX3_spares_34 ⟨Nat.zero_le _, Nat.zero_le _⟩ (fun H locs hP hD hS => ?_)
      refine lv_aload_n hx hb dX3_spares_37 rfl (lv_at hl 3 rfl) ?_
      refine va_get (D := (dC, dI)) (ci := 3) (v := .ref (a 8)) (C := RX3) (T := TX3) (N := 4) hx hb hts hin_3 hown hK hP 0 rfl rfl 1 (by decide) hf_19 (fun _ h9 => h9) rfl dX3_spares_38 ?_
      refine lv_iload_n hx hb dX3_spares_41 rfl (lv_at hl 2 rfl) ?_
      refine zq_cVi (As := [.int (nI i)]) (rest := [.int (ki jl)]) (wc := (wTa a cI tk th hu od (nI M) ti)) (w1 := (wTa a cI tk th hu od (nI M) ti)) (wr := ([wRm a clk] ++ (wLa a cI cZ cD ki pl tu le ch ca (nI N) ++ (wAl a cI be)) : va_W)) (ws' := (wRo a cI cZ cD ki pl tu le ch ca (nI N) tk th hu od (nI M) ti be clk)) ⟨hx, hb, hml, hown, hts⟩ (c_X2_kindAt l dC dI a cI cZ cD tk th hu od M ti (by omega) i (by omega) H.size) (cwV 1 hts gX3_spares_X2_kindAt rfl rfl rfl (by decide +kernel) ⟨Nat.le_of_ble_eq_true rfl, Nat.le_of_ble_eq_true rfl⟩) hK hP hD hS hA [8, 9, 10, 11, 12] [0, 1, 2, 3, 4, 5, 6, 7, 13, 14] [0, 1, 2, 3, 4, 5, 6, 7, 10, 11, 12, 13, 14, 8, 9] rfl rfl rfl rfl (by decide) rfl rfl (ci := 2) rfl 0 rfl rfl hl.1 rfl (Nat.le_of_ble_eq_true rfl) dX3_spares_42 ⟨Nat.zero_le _, Nat.zero_le _⟩ (fun H locs hP hD hS => ?_)
      refine lv_icmp_le (tgt := 51) hx hb dX3_spares_45 (by decide) (fun c_3 => ?_) (fun c_3 => ?_)
      · refine lv_iinc (v := nI (i + 1)) (lv' := [(2, .int (nI (i + 1))), (3, .int (th i)), (1, .int (nI (zf_cnt (sp_a ki tk th) i))), (0, .ref (a 0))]) hx hb dX3_spares_51 hl (k := 2) rfl (nI_add _ 1) (by decide) rfl (fun ls hl => ?_)
        refine lv_goto (tgt := 4) hx hb dX3_spares_54 (by decide) ?_
        have e_4 : (nI (zf_cnt (sp_a ki tk th) (i + 1))) = (nI (zf_cnt (sp_a ki tk th) i)) := by rw [zf_cnt_f (by simp [sp_a, d_0, c_1, clm, c_3])]
        exact ih_i _ _ _ (by omega) ⟨(by (try rw [e_4]); exact hP), (by (try rw [e_4]); exact hD), hS, (by (try rw [e_4]); exact lv_sub hl [2, 0, 3] rfl)⟩
      · refine lv_iinc (v := nI ((zf_cnt (sp_a ki tk th) i) + 1)) (lv' := [(1, .int (nI ((zf_cnt (sp_a ki tk th) i) + 1))), (3, .int (th i)), (2, .int (nI i)), (0, .ref (a 0))]) hx hb dX3_spares_48 hl (k := 1) rfl (nI_add _ 1) (by decide) rfl (fun ls hl => ?_)
        refine lv_iinc (v := nI (i + 1)) (lv' := [(2, .int (nI (i + 1))), (1, .int (nI ((zf_cnt (sp_a ki tk th) i) + 1))), (3, .int (th i)), (0, .ref (a 0))]) hx hb dX3_spares_51 hl (k := 2) rfl (nI_add _ 1) (by decide) rfl (fun ls hl => ?_)
        refine lv_goto (tgt := 4) hx hb dX3_spares_54 (by decide) ?_
        have e_5 : (nI (zf_cnt (sp_a ki tk th) (i + 1))) = (nI ((zf_cnt (sp_a ki tk th) i) + 1)) := by rw [zf_cnt_t (by simp [sp_a, d_0, c_1, clm, c_3, Int32.not_le.mp c_3])]
        exact ih_i _ _ _ (by omega) ⟨(by (try rw [e_5]); exact hP), (by (try rw [e_5]); exact hD), hS, (by (try rw [e_5]); exact lv_sub hl [1, 0, 3] rfl)⟩

set_option maxHeartbeats 4000000 in
set_option maxRecDepth 100000 in
theorem c_X3_rackCharge (l : Launch) (dC : Nat → ClassId) (dI : Nat → Nat → Nat) (a : Nat → Nat) (cI cZ cD : ClassId) (ki pl tu le : Nat → Int32) (ch ca : Nat → UInt64) (N : Nat) (tk th hu od : Nat → Int32) (M : Nat) (ti : Int32) (be : Nat → Int32) (clk : Int32) (hN : N ≤ 40) (hM : M ≤ 30) (hp : ∀ i, i < 40 → zn_p (ch i)) (hc : ∀ i, i < 40 → zn_p (ca i)) (sz : Nat) : zq_Mi l yX3_rackCharge wsX3_rackCharge ({ frames := 1, cells := 0, slots := 0, locals := 25 } : Room) (dC, dI) (zq_T cI cZ cD) [.ref (a 0)] (wRo a cI cZ cD ki pl tu le ch ca (nI N) tk th hu od (nI M) ti be clk) (la_rc (la_sum pl ch N) (la_sum pl ca N)) (wRo a cI cZ cD ki pl tu le ch ca (nI N) tk th hu od (nI M) ti be clk) sz := by
  refine Met.ofW (cc := cX3_rackCharge) (maxL := 1) (ret := (some .int)) (by decide) rfl ?_
  intro p e s m args below meth c s₁ B hml hv
  obtain ⟨rfl, hsz, hP, hK, hD0⟩ := hv
  have hx := B.exec
  have hb := B.bytes
  have hr := B.returns
  have hts := atoms_spec (ws := wsX3_rackCharge) B.pre
  have hown : s.vm.findClass RX3 = some m.cls := findClass_of_methodNamed B.named
  have hlocks := B.notSynchronized
  subst hsz
  have hD := hD0.self (sz := s.heap.size)
  generalize hAe : va_A (wRo a cI cZ cD ki pl tu le ch ca (nI N) tk th hu od (nI M) ti be clk) s.heap.size = A at hD ⊢
  have hA : ∀ q : Nat, s.heap.size ≤ q → A q := fun q h => by rw [← hAe]; exact Or.inr h
  have hS : va_S A s.heap s.heap [] := va_S.rf
  have hP : va_P (dC, dI) vwCl (wRo a cI cZ cD ki pl tu le ch ca (nI N) tk th hu od (nI M) ti be clk) s.heap := hP
  have hl := lv_entry ([.ref (a 0)]) (n := 1) (Nat.le_of_ble_eq_true rfl)
  rw [lg_entry_eq]
  generalize (lg_sl ([.ref (a 0)]) ++ List.replicate (1 - (lg_sl ([.ref (a 0)])).length) Slot.unset).toArray = ls at hl ⊢
  have hl : lv_has ls 1 [(0, .ref (a 0))] := hl
  have hf_10 := hts (.fieldLink RX3 10 "LampRoom" "lamps" "LLampRoom$Lamps;") (by decide +kernel)
  have hin_3 : ∀ w ∈ wsX30, w ∈ wsX3_rackCharge := by decide +kernel
  refine lv_aload_n hx hb dX3_rackCharge_0 rfl (lv_at hl 0 rfl) ?_
  refine va_get (D := (dC, dI)) (ci := 3) (v := .ref (a 1)) (C := RX3) (T := TX3) (N := 4) hx hb hts hin_3 hown hK hP 0 rfl rfl 0 (by decide) hf_10 (fun _ h9 => h9) rfl dX3_rackCharge_1 ?_
  refine zq_cVi (As := []) (rest := []) (wc := (wLa a cI cZ cD ki pl tu le ch ca (nI N))) (w1 := (wLa a cI cZ cD ki pl tu le ch ca (nI N))) (wr := ([wRm a clk] ++ (wTa a cI tk th hu od (nI M) ti ++ (wAl a cI be)) : va_W)) (ws' := (wRo a cI cZ cD ki pl tu le ch ca (nI N) tk th hu od (nI M) ti be clk)) ⟨hx, hb, hml, hown, hts⟩ (c_X1_hundredthsOnRack l dC dI a cI cZ cD ki pl tu le ch ca N (by omega) (hp) (hc) s.heap.size) (cwV 0 hts gX3_rackCharge_X1_hundredthsOnRack rfl rfl rfl (by decide +kernel) ⟨Nat.le_of_ble_eq_true rfl, Nat.le_of_ble_eq_true rfl⟩) hK hP hD hS hA [1, 2, 3, 4, 5, 6, 7] [0, 8, 9, 10, 11, 12, 13, 14] [0, 8, 9, 10, 11, 12, 13, 14, 1, 2, 3, 4, 5, 6, 7] rfl rfl rfl rfl (by decide) rfl rfl (ci := 1) rfl 0 rfl rfl hl.1 rfl (Nat.le_of_ble_eq_true rfl) dX3_rackCharge_4 ⟨Nat.zero_le _, Nat.zero_le _⟩ (fun H locs hP hD hS => ?_)
  exact W.iret (v := la_rc (la_sum pl ch N) (la_sum pl ca N)) hx hb hr (zq_qi rfl hP hK hD hS) hS.2.2 dX3_rackCharge_7
