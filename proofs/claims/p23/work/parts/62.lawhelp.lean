set_option maxHeartbeats 4000000 in
set_option maxRecDepth 100000 in
theorem c_L_low (l : Launch) (v9 n9 : Int32) (hn : ¬ n9 = 0) : zq_Si l yL_low wsL_low ({ frames := 0, cells := 0, slots := 0, locals := 0 } : Room) [.int v9, .int n9] (zlow v9 n9) := by
  refine Met.ofW (cc := cL_low) (maxL := 2) (ret := (some .int)) (by decide) rfl ?_
  intro p e s m args below meth c s₁ B hml hv
  obtain ⟨rfl, -⟩ := hv
  have hx := B.exec
  have hb := B.bytes
  have hr := B.returns
  have hts := atoms_spec (ws := wsL_low) B.pre
  have hown : s.vm.findClass RL = some m.cls := findClass_of_methodNamed B.named
  have hlocks := B.notSynchronized
  have hS : va_S (fun _ => False) s.heap s.heap [] := va_S.rf
  have hl := lv_entry ([.int v9, .int n9]) (n := 2) (Nat.le_of_ble_eq_true rfl)
  rw [lg_entry_eq]
  generalize (lg_sl ([.int v9, .int n9]) ++ List.replicate (2 - (lg_sl ([.int v9, .int n9])).length) Slot.unset).toArray = ls at hl ⊢
  have hl : lv_has ls 2 [(0, .int v9), (1, .int n9)] := hl
  refine lv_iload_n hx hb dL_low_0 rfl (lv_at hl 0 rfl) ?_
  refine lv_iconst (v := 1) hx hb dL_low_1 (by decide) ?_
  refine lv_iushr (v := zush v9) hx hb dL_low_2 rfl ?_
  refine lv_iload_n hx hb dL_low_3 rfl (lv_at hl 1 rfl) ?_
  refine t_irem hx hb dL_low_4 hn (v := (zush v9) - (zush v9) / n9 * n9) rfl ?_
  exact W.iret (v := (zush v9) - (zush v9) / n9 * n9) hx hb hr (fun t ht hW => ⟨⟨_, (), rfl, (by rfl), trivial⟩, hS.F ht⟩) (fun q hq => (hS.2.2 q hq).elim) dL_low_5

set_option maxHeartbeats 4000000 in
set_option maxRecDepth 100000 in
theorem c_L_fresh (l : Launch)  : zq_Sd l yL_fresh wsL_fresh ({ frames := 0, cells := 0, slots := 0, locals := 0 } : Room) [.int 2] 4626322717216342016 := by
  refine Met.ofW (cc := cL_fresh) (maxL := 1) (ret := (some .double)) (by decide) rfl ?_
  intro p e s m args below meth c s₁ B hml hv
  obtain ⟨rfl, -⟩ := hv
  have hx := B.exec
  have hb := B.bytes
  have hr := B.returns
  have hts := atoms_spec (ws := wsL_fresh) B.pre
  have hown : s.vm.findClass RL = some m.cls := findClass_of_methodNamed B.named
  have hlocks := B.notSynchronized
  have hS : va_S (fun _ => False) s.heap s.heap [] := va_S.rf
  have hl := lv_entry ([.int 2]) (n := 1) (Nat.le_of_ble_eq_true rfl)
  rw [lg_entry_eq]
  generalize (lg_sl ([.int 2]) ++ List.replicate (1 - (lg_sl ([.int 2])).length) Slot.unset).toArray = ls at hl ⊢
  have hl : lv_has ls 1 [(0, .int 2)] := hl
  have hc_48 := hts (.constantDouble RL 48 (4622945017495814144)) (by decide +kernel)
  have hc_50 := hts (.constantDouble RL 50 (4616189618054758400)) (by decide +kernel)
  refine lv_ldc2d hx hb hown hc_48 dL_fresh_0 ?_
  refine lv_ldc2d hx hb hown hc_50 dL_fresh_3 ?_
  refine lv_iload_n hx hb dL_fresh_6 rfl (lv_at hl 0 rfl) ?_
  refine lv_i2d hx hb dL_fresh_7 ?_
  refine lv_dmul hx hb dL_fresh_8 (by unfold vf_n64; decide +kernel) ?_
  refine lv_dadd hx hb dL_fresh_9 (by unfold vf_n64; decide +kernel) ?_
  exact W.dret (v := FP.dadd 4622945017495814144 (FP.dmul 4616189618054758400 (FP.i2d 2))) hx hb hr (fun t ht hW => ⟨⟨_, (), rfl, (by decide +kernel), trivial⟩, hS.F ht⟩) (fun q hq => (hS.2.2 q hq).elim) dL_fresh_10

set_option maxHeartbeats 4000000 in
set_option maxRecDepth 100000 in
theorem c_L_addLamp_ok (l : Launch) (dC : Nat → ClassId) (dI : Nat → Nat → Nat) (a : Nat → Nat) (cI cZ cD : ClassId) (ki pl tu le : Nat → Int32) (ch ca : Nat → UInt64) (N : Nat) (tk th hu od : Nat → Int32) (M : Nat) (ti : Int32) (be : Nat → Int32) (clk : Int32) (hN : N ≤ 40) (hM : M ≤ 30) (k : Int32) (hk : in_b k 0 2 = true) (hf : N < 40) (sz : Nat) : zq_Mi l yL_addLamp wsL_addLamp ({ frames := 3, cells := 0, slots := 0, locals := 63 } : Room) (dC, dI) (zq_T cI cZ cD) [.ref (a 0), .int k] (wRo a cI cZ cD ki pl tu le ch ca (nI N) tk th hu od (nI M) ti be clk) (nI N) (wRo a cI cZ cD (upd ki N k) (upd pl N 0) tu le (vf_upd ch N (la_new k)) (vf_upd ca N (la_new k)) (nI (N + 1)) tk th hu od (nI M) ti be clk) sz := by
  refine va_MetW (cc := cL_addLamp) (maxL := 4) (ret := (some .int)) (by decide) rfl ?_
  intro p e s m args below meth c s₁ B hml hv
  obtain ⟨rfl, hsz, hP, hK, hD0⟩ := hv
  have hx := B.exec
  have hb := B.bytes
  have hr := B.returns
  have hts := atoms_spec (ws := wsL_addLamp) B.pre
  have hown : s.vm.findClass RL = some m.cls := findClass_of_methodNamed B.named
  have hlocks := B.notSynchronized
  subst hsz
  have hD := hD0.self (sz := s.heap.size)
  generalize hAe : va_A (wRo a cI cZ cD ki pl tu le ch ca (nI N) tk th hu od (nI M) ti be clk) s.heap.size = A at hD ⊢
  have hA : ∀ q : Nat, s.heap.size ≤ q → A q := fun q h => by rw [← hAe]; exact Or.inr h
  have hS : va_S A s.heap s.heap [] := va_S.rf
  have hP : va_P (dC, dI) vwCl (wRo a cI cZ cD ki pl tu le ch ca (nI N) tk th hu od (nI M) ti be clk) s.heap := hP
  have hl := lv_entry ([.ref (a 0), .int k]) (n := 4) (Nat.le_of_ble_eq_true rfl)
  rw [lg_entry_eq]
  generalize (lg_sl ([.ref (a 0), .int k]) ++ List.replicate (4 - (lg_sl ([.ref (a 0), .int k])).length) Slot.unset).toArray = ls at hl ⊢
  have hl : lv_has ls 4 [(0, .ref (a 0)), (1, .int k)] := hl
  refine lv_aload_n hx hb dL_addLamp_0 rfl (lv_at hl 0 rfl) ?_
  refine lv_iload_n hx hb dL_addLamp_1 rfl (lv_at hl 1 rfl) ?_
  refine zq_cVi (As := [.int k]) (rest := []) (wc := (wRo a cI cZ cD ki pl tu le ch ca (nI N) tk th hu od (nI M) ti be clk)) (w1 := (wRo a cI cZ cD (upd ki N k) (upd pl N 0) tu le (vf_upd ch N (la_new k)) (vf_upd ca N (la_new k)) (nI (N + 1)) tk th hu od (nI M) ti be clk)) (wr := ([] : va_W)) (ws' := (wRo a cI cZ cD (upd ki N k) (upd pl N 0) tu le (vf_upd ch N (la_new k)) (vf_upd ca N (la_new k)) (nI (N + 1)) tk th hu od (nI M) ti be clk)) ⟨hx, hb, hml, hown, hts⟩ (c_X3_addLamp_ok l dC dI a cI cZ cD ki pl tu le ch ca N tk th hu od M ti be clk (by omega) (by omega) k (hk) (hf) s.heap.size) (cwV 1 hts gL_addLamp_X3_addLamp rfl rfl rfl (by decide +kernel) ⟨Nat.le_of_ble_eq_true rfl, Nat.le_of_ble_eq_true rfl⟩) hK hP hD hS hA [0, 1, 2, 3, 4, 5, 6, 7, 8, 9, 10, 11, 12, 13, 14] [] [0, 1, 2, 3, 4, 5, 6, 7, 8, 9, 10, 11, 12, 13, 14] rfl rfl rfl rfl (by decide) rfl rfl (ci := 3) rfl 0 rfl rfl hl.1 rfl (Nat.le_of_ble_eq_true rfl) dL_addLamp_2 ⟨Nat.zero_le _, Nat.zero_le _⟩ (fun H locs hP hD hS => ?_)
  refine lv_istore_n (lv' := [(2, .int (nI N)), (0, .ref (a 0)), (1, .int k)]) hx hb dL_addLamp_5 rfl hl (by decide) rfl (fun ls hl => ?_)
  refine lv_goto (tgt := 17) hx hb dL_addLamp_6 (by decide) ?_
  refine lv_iload_n hx hb dL_addLamp_17 rfl (lv_at hl 0 rfl) ?_
  exact W.iret (v := nI N) hx hb hr (zq_qi rfl hP hK hD hS) hS.2.2 dL_addLamp_18

set_option maxHeartbeats 4000000 in
set_option maxRecDepth 100000 in
theorem c_L_addMiner_ok (l : Launch) (dC : Nat → ClassId) (dI : Nat → Nat → Nat) (a : Nat → Nat) (cI cZ cD : ClassId) (ki pl tu le : Nat → Int32) (ch ca : Nat → UInt64) (N : Nat) (tk th hu od : Nat → Int32) (M : Nat) (ti : Int32) (be : Nat → Int32) (clk : Int32) (hN : N ≤ 40) (hM : M ≤ 30) (k : Int32) (hk : in_b k 0 2 = true) (hf : M < 30) (sz : Nat) : zq_Mi l yL_addMiner wsL_addMiner ({ frames := 2, cells := 0, slots := 0, locals := 43 } : Room) (dC, dI) (zq_T cI cZ cD) [.ref (a 0), .int k] (wRo a cI cZ cD ki pl tu le ch ca (nI N) tk th hu od (nI M) ti be clk) (nI M) (wRo a cI cZ cD ki pl tu le ch ca (nI N) (upd tk M k) (upd th M (-1)) hu od (nI (M + 1)) ti be clk) sz := by
  refine va_MetW (cc := cL_addMiner) (maxL := 4) (ret := (some .int)) (by decide) rfl ?_
  intro p e s m args below meth c s₁ B hml hv
  obtain ⟨rfl, hsz, hP, hK, hD0⟩ := hv
  have hx := B.exec
  have hb := B.bytes
  have hr := B.returns
  have hts := atoms_spec (ws := wsL_addMiner) B.pre
  have hown : s.vm.findClass RL = some m.cls := findClass_of_methodNamed B.named
  have hlocks := B.notSynchronized
  subst hsz
  have hD := hD0.self (sz := s.heap.size)
  generalize hAe : va_A (wRo a cI cZ cD ki pl tu le ch ca (nI N) tk th hu od (nI M) ti be clk) s.heap.size = A at hD ⊢
  have hA : ∀ q : Nat, s.heap.size ≤ q → A q := fun q h => by rw [← hAe]; exact Or.inr h
  have hS : va_S A s.heap s.heap [] := va_S.rf
  have hP : va_P (dC, dI) vwCl (wRo a cI cZ cD ki pl tu le ch ca (nI N) tk th hu od (nI M) ti be clk) s.heap := hP
  have hl := lv_entry ([.ref (a 0), .int k]) (n := 4) (Nat.le_of_ble_eq_true rfl)
  rw [lg_entry_eq]
  generalize (lg_sl ([.ref (a 0), .int k]) ++ List.replicate (4 - (lg_sl ([.ref (a 0), .int k])).length) Slot.unset).toArray = ls at hl ⊢
  have hl : lv_has ls 4 [(0, .ref (a 0)), (1, .int k)] := hl
  refine lv_aload_n hx hb dL_addMiner_0 rfl (lv_at hl 0 rfl) ?_
  refine lv_iload_n hx hb dL_addMiner_1 rfl (lv_at hl 1 rfl) ?_
  refine zq_cVi (As := [.int k]) (rest := []) (wc := (wRo a cI cZ cD ki pl tu le ch ca (nI N) tk th hu od (nI M) ti be clk)) (w1 := (wRo a cI cZ cD ki pl tu le ch ca (nI N) (upd tk M k) (upd th M (-1)) hu od (nI (M + 1)) ti be clk)) (wr := ([] : va_W)) (ws' := (wRo a cI cZ cD ki pl tu le ch ca (nI N) (upd tk M k) (upd th M (-1)) hu od (nI (M + 1)) ti be clk)) ⟨hx, hb, hml, hown, hts⟩ (c_X3_addMiner_ok l dC dI a cI cZ cD ki pl tu le ch ca N tk th hu od M ti be clk (by omega) (by omega) k (hk) (hf) s.heap.size) (cwV 1 hts gL_addMiner_X3_addMiner rfl rfl rfl (by decide +kernel) ⟨Nat.le_of_ble_eq_true rfl, Nat.le_of_ble_eq_true rfl⟩) hK hP hD hS hA [0, 1, 2, 3, 4, 5, 6, 7, 8, 9, 10, 11, 12, 13, 14] [] [0, 1, 2, 3, 4, 5, 6, 7, 8, 9, 10, 11, 12, 13, 14] rfl rfl rfl rfl (by decide) rfl rfl (ci := 3) rfl 0 rfl rfl hl.1 rfl (Nat.le_of_ble_eq_true rfl) dL_addMiner_2 ⟨Nat.zero_le _, Nat.zero_le _⟩ (fun H locs hP hD hS => ?_)
  refine lv_istore_n (lv' := [(2, .int (nI M)), (0, .ref (a 0)), (1, .int k)]) hx hb dL_addMiner_5 rfl hl (by decide) rfl (fun ls hl => ?_)
  refine lv_goto (tgt := 17) hx hb dL_addMiner_6 (by decide) ?_
  refine lv_iload_n hx hb dL_addMiner_17 rfl (lv_at hl 0 rfl) ?_
  exact W.iret (v := nI M) hx hb hr (zq_qi rfl hP hK hD hS) hS.2.2 dL_addMiner_18

set_option maxHeartbeats 4000000 in
set_option maxRecDepth 100000 in
theorem c_L_ready_ok (l : Launch) (dC : Nat → ClassId) (dI : Nat → Nat → Nat) (a : Nat → Nat) (cI cZ cD : ClassId) (ki pl tu le : Nat → Int32) (ch ca : Nat → UInt64) (N : Nat) (tk th hu od : Nat → Int32) (M : Nat) (ti : Int32) (be : Nat → Int32) (clk : Int32) (hN : N ≤ 40) (hM : M ≤ 30) (k : Int32) (hk : in_b k 0 2 = true) (sz : Nat) : zq_Mi l yL_ready wsL_ready ({ frames := 3, cells := 0, slots := 0, locals := 66 } : Room) (dC, dI) (zq_T cI cZ cD) [.ref (a 0), .int k] (wRo a cI cZ cD ki pl tu le ch ca (nI N) tk th hu od (nI M) ti be clk) (nI (zf_cnt (la_is ki pl ch k) N)) (wRo a cI cZ cD ki pl tu le ch ca (nI N) tk th hu od (nI M) ti be clk) sz := by
  refine va_MetW (cc := cL_ready) (maxL := 4) (ret := (some .int)) (by decide) rfl ?_
  intro p e s m args below meth c s₁ B hml hv
  obtain ⟨rfl, hsz, hP, hK, hD0⟩ := hv
  have hx := B.exec
  have hb := B.bytes
  have hr := B.returns
  have hts := atoms_spec (ws := wsL_ready) B.pre
  have hown : s.vm.findClass RL = some m.cls := findClass_of_methodNamed B.named
  have hlocks := B.notSynchronized
  subst hsz
  have hD := hD0.self (sz := s.heap.size)
  generalize hAe : va_A (wRo a cI cZ cD ki pl tu le ch ca (nI N) tk th hu od (nI M) ti be clk) s.heap.size = A at hD ⊢
  have hA : ∀ q : Nat, s.heap.size ≤ q → A q := fun q h => by rw [← hAe]; exact Or.inr h
  have hS : va_S A s.heap s.heap [] := va_S.rf
  have hP : va_P (dC, dI) vwCl (wRo a cI cZ cD ki pl tu le ch ca (nI N) tk th hu od (nI M) ti be clk) s.heap := hP
  have hl := lv_entry ([.ref (a 0), .int k]) (n := 4) (Nat.le_of_ble_eq_true rfl)
  rw [lg_entry_eq]
  generalize (lg_sl ([.ref (a 0), .int k]) ++ List.replicate (4 - (lg_sl ([.ref (a 0), .int k])).length) Slot.unset).toArray = ls at hl ⊢
  have hl : lv_has ls 4 [(0, .ref (a 0)), (1, .int k)] := hl
  refine lv_aload_n hx hb dL_ready_0 rfl (lv_at hl 0 rfl) ?_
  refine lv_iload_n hx hb dL_ready_1 rfl (lv_at hl 1 rfl) ?_
  refine zq_cVi (As := [.int k]) (rest := []) (wc := (wRo a cI cZ cD ki pl tu le ch ca (nI N) tk th hu od (nI M) ti be clk)) (w1 := (wRo a cI cZ cD ki pl tu le ch ca (nI N) tk th hu od (nI M) ti be clk)) (wr := ([] : va_W)) (ws' := (wRo a cI cZ cD ki pl tu le ch ca (nI N) tk th hu od (nI M) ti be clk)) ⟨hx, hb, hml, hown, hts⟩ (c_X3_ready_ok l dC dI a cI cZ cD ki pl tu le ch ca N tk th hu od M ti be clk (by omega) (by omega) k (hk) s.heap.size) (cwV 1 hts gL_ready_X3_ready rfl rfl rfl (by decide +kernel) ⟨Nat.le_of_ble_eq_true rfl, Nat.le_of_ble_eq_true rfl⟩) hK hP hD hS hA [0, 1, 2, 3, 4, 5, 6, 7, 8, 9, 10, 11, 12, 13, 14] [] [0, 1, 2, 3, 4, 5, 6, 7, 8, 9, 10, 11, 12, 13, 14] rfl rfl rfl rfl (by decide) rfl rfl (ci := 3) rfl 0 rfl rfl hl.1 rfl (Nat.le_of_ble_eq_true rfl) dL_ready_2 ⟨Nat.zero_le _, Nat.zero_le _⟩ (fun H locs hP hD hS => ?_)
  refine lv_istore_n (lv' := [(2, .int (nI (zf_cnt (la_is ki pl ch k) N))), (0, .ref (a 0)), (1, .int k)]) hx hb dL_ready_5 rfl hl (by decide) rfl (fun ls hl => ?_)
  refine lv_goto (tgt := 13) hx hb dL_ready_6 (by decide) ?_
  refine lv_iload_n hx hb dL_ready_13 rfl (lv_at hl 0 rfl) ?_
  exact W.iret (v := nI (zf_cnt (la_is ki pl ch k) N)) hx hb hr (zq_qi rfl hP hK hD hS) hS.2.2 dL_ready_14

set_option maxHeartbeats 4000000 in
set_option maxRecDepth 100000 in
theorem c_L_addLamp_bad (l : Launch) (hl0 : l.stackTraces = false) (dC : Nat → ClassId) (dI : Nat → Nat → Nat) (a : Nat → Nat) (cI cZ cD : ClassId) (ki pl tu le : Nat → Int32) (ch ca : Nat → UInt64) (N : Nat) (tk th hu od : Nat → Int32) (M : Nat) (ti : Int32) (be : Nat → Int32) (clk : Int32) (hN : N ≤ 40) (hM : M ≤ 30) (k : Int32) (hk : in_b k 0 2 = false) (sz : Nat) : zl_M l yL_addLamp wsL_addLamp ({ frames := 8, cells := 1, slots := 6, locals := 131 } : Room) (dC, dI) (zq_T cI cZ cD) [.ref (a 0), .int k] (wRo a cI cZ cD ki pl tu le ch ca (nI N) tk th hu od (nI M) ti be clk) (-62) sz := by
  refine va_MetW (cc := cL_addLamp) (maxL := 4) (ret := (some .int)) (by decide) rfl ?_
  intro p e s m args below meth c s₁ B hml hv
  obtain ⟨rfl, ⟨hsz, hP, hK, hD0⟩, hH, hE⟩ := hv
  have hx := B.exec
  have hb := B.bytes
  have hr := B.returns
  have hts := atoms_spec (ws := wsL_addLamp) B.pre
  have hown : s.vm.findClass RL = some m.cls := findClass_of_methodNamed B.named
  have hlocks := B.notSynchronized
  subst hsz
  have hD := hD0.self (sz := s.heap.size)
  generalize hAe : va_A (wRo a cI cZ cD ki pl tu le ch ca (nI N) tk th hu od (nI M) ti be clk) s.heap.size = A at hD hH ⊢
  have hA : ∀ q : Nat, s.heap.size ≤ q → A q := fun q h => by rw [← hAe]; exact Or.inr h
  have hS : va_S A s.heap s.heap [] := va_S.rf
  have hP : va_P (dC, dI) vwCl (wRo a cI cZ cD ki pl tu le ch ca (nI N) tk th hu od (nI M) ti be clk) s.heap := hP
  have hl := lv_entry ([.ref (a 0), .int k]) (n := 4) (Nat.le_of_ble_eq_true rfl)
  rw [lg_entry_eq]
  generalize (lg_sl ([.ref (a 0), .int k]) ++ List.replicate (4 - (lg_sl ([.ref (a 0), .int k])).length) Slot.unset).toArray = ls at hl ⊢
  have hl : lv_has ls 4 [(0, .ref (a 0)), (1, .int k)] := hl
  have htab := vx_table (x := yL_addLamp) B (hts (.codeWith yL_addLamp cL_addLamp 4 (some .int) [(0, 6, 9, 14), (0, 6, 13, 16)]) List.mem_cons_self)
  refine lv_aload_n hx hb dL_addLamp_0 rfl (lv_at hl 0 rfl) ?_
  refine lv_iload_n hx hb dL_addLamp_1 rfl (lv_at hl 1 rfl) ?_
  refine zx_cVi (E := zx_A) (As := [.int k]) (rest := []) (wc := (wRo a cI cZ cD ki pl tu le ch ca (nI N) tk th hu od (nI M) ti be clk)) (wr := []) ⟨hx, hb, hml, hown, hts⟩ (c_X3_addLamp_bad l hl0 dC dI a cI cZ cD ki pl tu le ch ca N tk th hu od M ti be clk hN hM k hk s.heap.size) (cwV 1 hts gL_addLamp_X3_addLamp rfl rfl rfl (by decide +kernel) ⟨(Nat.le_of_ble_eq_true rfl), (Nat.le_of_ble_eq_true rfl)⟩) hK hP hD hS hA hH hE [0, 1, 2, 3, 4, 5, 6, 7, 8, 9, 10, 11, 12, 13, 14] [] [0, 1, 2, 3, 4, 5, 6, 7, 8, 9, 10, 11, 12, 13, 14] rfl rfl rfl rfl (by decide) rfl rfl (ci := 3) rfl 0 rfl rfl hl.1 rfl (Nat.le_of_ble_eq_true rfl) dL_addLamp_2 ⟨(Nat.le_of_ble_eq_true rfl), (Nat.le_of_ble_eq_true rfl)⟩ (fun H locs q9 ce hP hD hS hce hcv hcl hG => ?_)
  refine vx_catch (name := zx_A) hown [] ⟨0, 6, 9, 14⟩ [⟨0, 6, 13, 16⟩] htab (fun z hz => absurd hz List.not_mem_nil) (by decide) (by decide) (hts (.classLink RL 14 zx_A) (by decide +kernel)) (va_Nw.use rfl hE.1.1.1.1) hce hcv hcl ?_
  refine lv_astore_n (lv' := [(3, .ref q9), (0, .ref (a 0)), (1, .int k)]) hx hb dL_addLamp_9 rfl hl (by decide) rfl (fun ls hl => ?_)
  refine lv_bipush (v := (-62)) hx hb dL_addLamp_10 (by decide) ?_
  exact W.iret (v := (-62)) hx hb hr (zg_qi rfl hP hK hD hS hG) hS.2.2 dL_addLamp_12

set_option maxHeartbeats 4000000 in
set_option maxRecDepth 100000 in
theorem c_L_addMiner_bad (l : Launch) (hl0 : l.stackTraces = false) (dC : Nat → ClassId) (dI : Nat → Nat → Nat) (a : Nat → Nat) (cI cZ cD : ClassId) (ki pl tu le : Nat → Int32) (ch ca : Nat → UInt64) (N : Nat) (tk th hu od : Nat → Int32) (M : Nat) (ti : Int32) (be : Nat → Int32) (clk : Int32) (hN : N ≤ 40) (hM : M ≤ 30) (k : Int32) (hk : in_b k 0 2 = false) (sz : Nat) : zl_M l yL_addMiner wsL_addMiner ({ frames := 8, cells := 1, slots := 6, locals := 131 } : Room) (dC, dI) (zq_T cI cZ cD) [.ref (a 0), .int k] (wRo a cI cZ cD ki pl tu le ch ca (nI N) tk th hu od (nI M) ti be clk) (-62) sz := by
  refine va_MetW (cc := cL_addMiner) (maxL := 4) (ret := (some .int)) (by decide) rfl ?_
  intro p e s m args below meth c s₁ B hml hv
  obtain ⟨rfl, ⟨hsz, hP, hK, hD0⟩, hH, hE⟩ := hv
  have hx := B.exec
  have hb := B.bytes
  have hr := B.returns
  have hts := atoms_spec (ws := wsL_addMiner) B.pre
  have hown : s.vm.findClass RL = some m.cls := findClass_of_methodNamed B.named
  have hlocks := B.notSynchronized
  subst hsz
  have hD := hD0.self (sz := s.heap.size)
  generalize hAe : va_A (wRo a cI cZ cD ki pl tu le ch ca (nI N) tk th hu od (nI M) ti be clk) s.heap.size = A at hD hH ⊢
  have hA : ∀ q : Nat, s.heap.size ≤ q → A q := fun q h => by rw [← hAe]; exact Or.inr h
  have hS : va_S A s.heap s.heap [] := va_S.rf
  have hP : va_P (dC, dI) vwCl (wRo a cI cZ cD ki pl tu le ch ca (nI N) tk th hu od (nI M) ti be clk) s.heap := hP
  have hl := lv_entry ([.ref (a 0), .int k]) (n := 4) (Nat.le_of_ble_eq_true rfl)
  rw [lg_entry_eq]
  generalize (lg_sl ([.ref (a 0), .int k]) ++ List.replicate (4 - (lg_sl ([.ref (a 0), .int k])).length) Slot.unset).toArray = ls at hl ⊢
  have hl : lv_has ls 4 [(0, .ref (a 0)), (1, .int k)] := hl
  have htab := vx_table (x := yL_addMiner) B (hts (.codeWith yL_addMiner cL_addMiner 4 (some .int) [(0, 6, 9, 14), (0, 6, 13, 16)]) List.mem_cons_self)
  refine lv_aload_n hx hb dL_addMiner_0 rfl (lv_at hl 0 rfl) ?_
  refine lv_iload_n hx hb dL_addMiner_1 rfl (lv_at hl 1 rfl) ?_
  refine zx_cVi (E := zx_A) (As := [.int k]) (rest := []) (wc := (wRo a cI cZ cD ki pl tu le ch ca (nI N) tk th hu od (nI M) ti be clk)) (wr := []) ⟨hx, hb, hml, hown, hts⟩ (c_X3_addMiner_bad l hl0 dC dI a cI cZ cD ki pl tu le ch ca N tk th hu od M ti be clk hN hM k hk s.heap.size) (cwV 1 hts gL_addMiner_X3_addMiner rfl rfl rfl (by decide +kernel) ⟨(Nat.le_of_ble_eq_true rfl), (Nat.le_of_ble_eq_true rfl)⟩) hK hP hD hS hA hH hE [0, 1, 2, 3, 4, 5, 6, 7, 8, 9, 10, 11, 12, 13, 14] [] [0, 1, 2, 3, 4, 5, 6, 7, 8, 9, 10, 11, 12, 13, 14] rfl rfl rfl rfl (by decide) rfl rfl (ci := 3) rfl 0 rfl rfl hl.1 rfl (Nat.le_of_ble_eq_true rfl) dL_addMiner_2 ⟨(Nat.le_of_ble_eq_true rfl), (Nat.le_of_ble_eq_true rfl)⟩ (fun H locs q9 ce hP hD hS hce hcv hcl hG => ?_)
  refine vx_catch (name := zx_A) hown [] ⟨0, 6, 9, 14⟩ [⟨0, 6, 13, 16⟩] htab (fun z hz => absurd hz List.not_mem_nil) (by decide) (by decide) (hts (.classLink RL 14 zx_A) (by decide +kernel)) (va_Nw.use rfl hE.1.1.1.1) hce hcv hcl ?_
  refine lv_astore_n (lv' := [(3, .ref q9), (0, .ref (a 0)), (1, .int k)]) hx hb dL_addMiner_9 rfl hl (by decide) rfl (fun ls hl => ?_)
  refine lv_bipush (v := (-62)) hx hb dL_addMiner_10 (by decide) ?_
  exact W.iret (v := (-62)) hx hb hr (zg_qi rfl hP hK hD hS hG) hS.2.2 dL_addMiner_12

set_option maxHeartbeats 4000000 in
set_option maxRecDepth 100000 in
theorem c_L_test_bad (l : Launch) (hl0 : l.stackTraces = false) (dC : Nat → ClassId) (dI : Nat → Nat → Nat) (a : Nat → Nat) (cI cZ cD : ClassId) (ki pl tu le : Nat → Int32) (ch ca : Nat → UInt64) (N : Nat) (tk th hu od : Nat → Int32) (M : Nat) (ti : Int32) (be : Nat → Int32) (clk : Int32) (hN : N ≤ 40) (hM : M ≤ 30) (x : Int32) (hx0 : in_b x 0 (nI N - 1) = false) (sz : Nat) : zl_M l yL_test wsL_test ({ frames := 8, cells := 1, slots := 6, locals := 133 } : Room) (dC, dI) (zq_T cI cZ cD) [.ref (a 0), .int x] (wRo a cI cZ cD ki pl tu le ch ca (nI N) tk th hu od (nI M) ti be clk) (-61) sz := by
  refine va_MetW (cc := cL_test) (maxL := 4) (ret := (some .int)) (by decide) rfl ?_
  intro p e s m args below meth c s₁ B hml hv
  obtain ⟨rfl, ⟨hsz, hP, hK, hD0⟩, hH, hE⟩ := hv
  have hx := B.exec
  have hb := B.bytes
  have hr := B.returns
  have hts := atoms_spec (ws := wsL_test) B.pre
  have hown : s.vm.findClass RL = some m.cls := findClass_of_methodNamed B.named
  have hlocks := B.notSynchronized
  subst hsz
  have hD := hD0.self (sz := s.heap.size)
  generalize hAe : va_A (wRo a cI cZ cD ki pl tu le ch ca (nI N) tk th hu od (nI M) ti be clk) s.heap.size = A at hD hH ⊢
  have hA : ∀ q : Nat, s.heap.size ≤ q → A q := fun q h => by rw [← hAe]; exact Or.inr h
  have hS : va_S A s.heap s.heap [] := va_S.rf
  have hP : va_P (dC, dI) vwCl (wRo a cI cZ cD ki pl tu le ch ca (nI N) tk th hu od (nI M) ti be clk) s.heap := hP
  have hl := lv_entry ([.ref (a 0), .int x]) (n := 4) (Nat.le_of_ble_eq_true rfl)
  rw [lg_entry_eq]
  generalize (lg_sl ([.ref (a 0), .int x]) ++ List.replicate (4 - (lg_sl ([.ref (a 0), .int x])).length) Slot.unset).toArray = ls at hl ⊢
  have hl : lv_has ls 4 [(0, .ref (a 0)), (1, .int x)] := hl
  have htab := vx_table (x := yL_test) B (hts (.codeWith yL_test cL_test 4 (some .int) [(0, 6, 9, 24), (0, 6, 13, 16)]) List.mem_cons_self)
  refine lv_aload_n hx hb dL_test_0 rfl (lv_at hl 0 rfl) ?_
  refine lv_iload_n hx hb dL_test_1 rfl (lv_at hl 1 rfl) ?_
  refine zx_cVi (E := zx_I) (As := [.int x]) (rest := []) (wc := (wRo a cI cZ cD ki pl tu le ch ca (nI N) tk th hu od (nI M) ti be clk)) (wr := []) ⟨hx, hb, hml, hown, hts⟩ (c_X3_test_bad l hl0 dC dI a cI cZ cD ki pl tu le ch ca N tk th hu od M ti be clk hN hM x hx0 s.heap.size) (cwV 1 hts gL_test_X3_test rfl rfl rfl (by decide +kernel) ⟨(Nat.le_of_ble_eq_true rfl), (Nat.le_of_ble_eq_true rfl)⟩) hK hP hD hS hA hH hE [0, 1, 2, 3, 4, 5, 6, 7, 8, 9, 10, 11, 12, 13, 14] [] [0, 1, 2, 3, 4, 5, 6, 7, 8, 9, 10, 11, 12, 13, 14] rfl rfl rfl rfl (by decide) rfl rfl (ci := 3) rfl 0 rfl rfl hl.1 rfl (Nat.le_of_ble_eq_true rfl) dL_test_2 ⟨(Nat.le_of_ble_eq_true rfl), (Nat.le_of_ble_eq_true rfl)⟩ (fun H locs q9 ce hP hD hS hce hcv hcl hG => ?_)
  refine vx_catch (name := zx_I) hown [] ⟨0, 6, 9, 24⟩ [⟨0, 6, 13, 16⟩] htab (fun z hz => absurd hz List.not_mem_nil) (by decide) (by decide) (hts (.classLink RL 24 zx_I) (by decide +kernel)) (va_Nw.use rfl hE.1.1.1.2.2) hce hcv hcl ?_
  refine lv_astore_n (lv' := [(3, .ref q9), (0, .ref (a 0)), (1, .int x)]) hx hb dL_test_9 rfl hl (by decide) rfl (fun ls hl => ?_)
  refine lv_bipush (v := (-61)) hx hb dL_test_10 (by decide) ?_
  exact W.iret (v := (-61)) hx hb hr (zg_qi rfl hP hK hD hS hG) hS.2.2 dL_test_12

set_option maxHeartbeats 4000000 in
set_option maxRecDepth 100000 in
theorem c_L_mend_bad (l : Launch) (hl0 : l.stackTraces = false) (dC : Nat → ClassId) (dI : Nat → Nat → Nat) (a : Nat → Nat) (cI cZ cD : ClassId) (ki pl tu le : Nat → Int32) (ch ca : Nat → UInt64) (N : Nat) (tk th hu od : Nat → Int32) (M : Nat) (ti : Int32) (be : Nat → Int32) (clk : Int32) (hN : N ≤ 40) (hM : M ≤ 30) (x : Int32) (hx0 : in_b x 0 (nI N - 1) = false) (sz : Nat) : zl_M l yL_mend wsL_mend ({ frames := 8, cells := 1, slots := 6, locals := 133 } : Room) (dC, dI) (zq_T cI cZ cD) [.ref (a 0), .int x] (wRo a cI cZ cD ki pl tu le ch ca (nI N) tk th hu od (nI M) ti be clk) (-61) sz := by
  refine va_MetW (cc := cL_mend) (maxL := 4) (ret := (some .int)) (by decide) rfl ?_
  intro p e s m args below meth c s₁ B hml hv
  obtain ⟨rfl, ⟨hsz, hP, hK, hD0⟩, hH, hE⟩ := hv
  have hx := B.exec
  have hb := B.bytes
  have hr := B.returns
  have hts := atoms_spec (ws := wsL_mend) B.pre
  have hown : s.vm.findClass RL = some m.cls := findClass_of_methodNamed B.named
  have hlocks := B.notSynchronized
  subst hsz
  have hD := hD0.self (sz := s.heap.size)
  generalize hAe : va_A (wRo a cI cZ cD ki pl tu le ch ca (nI N) tk th hu od (nI M) ti be clk) s.heap.size = A at hD hH ⊢
  have hA : ∀ q : Nat, s.heap.size ≤ q → A q := fun q h => by rw [← hAe]; exact Or.inr h
  have hS : va_S A s.heap s.heap [] := va_S.rf
  have hP : va_P (dC, dI) vwCl (wRo a cI cZ cD ki pl tu le ch ca (nI N) tk th hu od (nI M) ti be clk) s.heap := hP
  have hl := lv_entry ([.ref (a 0), .int x]) (n := 4) (Nat.le_of_ble_eq_true rfl)
  rw [lg_entry_eq]
  generalize (lg_sl ([.ref (a 0), .int x]) ++ List.replicate (4 - (lg_sl ([.ref (a 0), .int x])).length) Slot.unset).toArray = ls at hl ⊢
  have hl : lv_has ls 4 [(0, .ref (a 0)), (1, .int x)] := hl
  have htab := vx_table (x := yL_mend) B (hts (.codeWith yL_mend cL_mend 4 (some .int) [(0, 6, 9, 24), (0, 6, 13, 16)]) List.mem_cons_self)
  refine lv_aload_n hx hb dL_mend_0 rfl (lv_at hl 0 rfl) ?_
  refine lv_iload_n hx hb dL_mend_1 rfl (lv_at hl 1 rfl) ?_
  refine zx_cVi (E := zx_I) (As := [.int x]) (rest := []) (wc := (wRo a cI cZ cD ki pl tu le ch ca (nI N) tk th hu od (nI M) ti be clk)) (wr := []) ⟨hx, hb, hml, hown, hts⟩ (c_X3_mend_bad l hl0 dC dI a cI cZ cD ki pl tu le ch ca N tk th hu od M ti be clk hN hM x hx0 s.heap.size) (cwV 1 hts gL_mend_X3_mend rfl rfl rfl (by decide +kernel) ⟨(Nat.le_of_ble_eq_true rfl), (Nat.le_of_ble_eq_true rfl)⟩) hK hP hD hS hA hH hE [0, 1, 2, 3, 4, 5, 6, 7, 8, 9, 10, 11, 12, 13, 14] [] [0, 1, 2, 3, 4, 5, 6, 7, 8, 9, 10, 11, 12, 13, 14] rfl rfl rfl rfl (by decide) rfl rfl (ci := 3) rfl 0 rfl rfl hl.1 rfl (Nat.le_of_ble_eq_true rfl) dL_mend_2 ⟨(Nat.le_of_ble_eq_true rfl), (Nat.le_of_ble_eq_true rfl)⟩ (fun H locs q9 ce hP hD hS hce hcv hcl hG => ?_)
  refine vx_catch (name := zx_I) hown [] ⟨0, 6, 9, 24⟩ [⟨0, 6, 13, 16⟩] htab (fun z hz => absurd hz List.not_mem_nil) (by decide) (by decide) (hts (.classLink RL 24 zx_I) (by decide +kernel)) (va_Nw.use rfl hE.1.1.1.2.2) hce hcv hcl ?_
  refine lv_astore_n (lv' := [(3, .ref q9), (0, .ref (a 0)), (1, .int x)]) hx hb dL_mend_9 rfl hl (by decide) rfl (fun ls hl => ?_)
  refine lv_bipush (v := (-61)) hx hb dL_mend_10 (by decide) ?_
  exact W.iret (v := (-61)) hx hb hr (zg_qi rfl hP hK hD hS hG) hS.2.2 dL_mend_12

set_option maxHeartbeats 4000000 in
set_option maxRecDepth 100000 in
theorem c_L_ready_bad (l : Launch) (hl0 : l.stackTraces = false) (dC : Nat → ClassId) (dI : Nat → Nat → Nat) (a : Nat → Nat) (cI cZ cD : ClassId) (ki pl tu le : Nat → Int32) (ch ca : Nat → UInt64) (N : Nat) (tk th hu od : Nat → Int32) (M : Nat) (ti : Int32) (be : Nat → Int32) (clk : Int32) (hN : N ≤ 40) (hM : M ≤ 30) (k : Int32) (hk : in_b k 0 2 = false) (sz : Nat) : zl_M l yL_ready wsL_ready ({ frames := 8, cells := 1, slots := 6, locals := 131 } : Room) (dC, dI) (zq_T cI cZ cD) [.ref (a 0), .int k] (wRo a cI cZ cD ki pl tu le ch ca (nI N) tk th hu od (nI M) ti be clk) (-62) sz := by
  refine va_MetW (cc := cL_ready) (maxL := 4) (ret := (some .int)) (by decide) rfl ?_
  intro p e s m args below meth c s₁ B hml hv
  obtain ⟨rfl, ⟨hsz, hP, hK, hD0⟩, hH, hE⟩ := hv
  have hx := B.exec
  have hb := B.bytes
  have hr := B.returns
  have hts := atoms_spec (ws := wsL_ready) B.pre
  have hown : s.vm.findClass RL = some m.cls := findClass_of_methodNamed B.named
  have hlocks := B.notSynchronized
  subst hsz
  have hD := hD0.self (sz := s.heap.size)
  generalize hAe : va_A (wRo a cI cZ cD ki pl tu le ch ca (nI N) tk th hu od (nI M) ti be clk) s.heap.size = A at hD hH ⊢
  have hA : ∀ q : Nat, s.heap.size ≤ q → A q := fun q h => by rw [← hAe]; exact Or.inr h
  have hS : va_S A s.heap s.heap [] := va_S.rf
  have hP : va_P (dC, dI) vwCl (wRo a cI cZ cD ki pl tu le ch ca (nI N) tk th hu od (nI M) ti be clk) s.heap := hP
  have hl := lv_entry ([.ref (a 0), .int k]) (n := 4) (Nat.le_of_ble_eq_true rfl)
  rw [lg_entry_eq]
  generalize (lg_sl ([.ref (a 0), .int k]) ++ List.replicate (4 - (lg_sl ([.ref (a 0), .int k])).length) Slot.unset).toArray = ls at hl ⊢
  have hl : lv_has ls 4 [(0, .ref (a 0)), (1, .int k)] := hl
  have htab := vx_table (x := yL_ready) B (hts (.codeWith yL_ready cL_ready 4 (some .int) [(0, 6, 9, 14)]) List.mem_cons_self)
  refine lv_aload_n hx hb dL_ready_0 rfl (lv_at hl 0 rfl) ?_
  refine lv_iload_n hx hb dL_ready_1 rfl (lv_at hl 1 rfl) ?_
  refine zx_cVi (E := zx_A) (As := [.int k]) (rest := []) (wc := (wRo a cI cZ cD ki pl tu le ch ca (nI N) tk th hu od (nI M) ti be clk)) (wr := []) ⟨hx, hb, hml, hown, hts⟩ (c_X3_ready_bad l hl0 dC dI a cI cZ cD ki pl tu le ch ca N tk th hu od M ti be clk hN hM k hk s.heap.size) (cwV 1 hts gL_ready_X3_ready rfl rfl rfl (by decide +kernel) ⟨(Nat.le_of_ble_eq_true rfl), (Nat.le_of_ble_eq_true rfl)⟩) hK hP hD hS hA hH hE [0, 1, 2, 3, 4, 5, 6, 7, 8, 9, 10, 11, 12, 13, 14] [] [0, 1, 2, 3, 4, 5, 6, 7, 8, 9, 10, 11, 12, 13, 14] rfl rfl rfl rfl (by decide) rfl rfl (ci := 3) rfl 0 rfl rfl hl.1 rfl (Nat.le_of_ble_eq_true rfl) dL_ready_2 ⟨(Nat.le_of_ble_eq_true rfl), (Nat.le_of_ble_eq_true rfl)⟩ (fun H locs q9 ce hP hD hS hce hcv hcl hG => ?_)
  refine vx_catch (name := zx_A) hown [] ⟨0, 6, 9, 14⟩ [] htab (fun z hz => absurd hz List.not_mem_nil) (by decide) (by decide) (hts (.classLink RL 14 zx_A) (by decide +kernel)) (va_Nw.use rfl hE.1.1.1.1) hce hcv hcl ?_
  refine lv_astore_n (lv' := [(3, .ref q9), (0, .ref (a 0)), (1, .int k)]) hx hb dL_ready_9 rfl hl (by decide) rfl (fun ls hl => ?_)
  refine lv_bipush (v := (-62)) hx hb dL_ready_10 (by decide) ?_
  exact W.iret (v := (-62)) hx hb hr (zg_qi rfl hP hK hD hS hG) hS.2.2 dL_ready_12

set_option maxHeartbeats 4000000 in
set_option maxRecDepth 100000 in
theorem c_L_placeOf_bad (l : Launch) (hl0 : l.stackTraces = false) (dC : Nat → ClassId) (dI : Nat → Nat → Nat) (a : Nat → Nat) (cI cZ cD : ClassId) (ki pl tu le : Nat → Int32) (ch ca : Nat → UInt64) (N : Nat) (tk th hu od : Nat → Int32) (M : Nat) (ti : Int32) (be : Nat → Int32) (clk : Int32) (hN : N ≤ 40) (hM : M ≤ 30) (x : Int32) (hx0 : in_b x 0 (nI N - 1) = false) (sz : Nat) : zl_M l yL_placeOf wsL_placeOf ({ frames := 8, cells := 1, slots := 6, locals := 132 } : Room) (dC, dI) (zq_T cI cZ cD) [.ref (a 0), .int x] (wRo a cI cZ cD ki pl tu le ch ca (nI N) tk th hu od (nI M) ti be clk) (-61) sz := by
  refine va_MetW (cc := cL_placeOf) (maxL := 4) (ret := (some .int)) (by decide) rfl ?_
  intro p e s m args below meth c s₁ B hml hv
  obtain ⟨rfl, ⟨hsz, hP, hK, hD0⟩, hH, hE⟩ := hv
  have hx := B.exec
  have hb := B.bytes
  have hr := B.returns
  have hts := atoms_spec (ws := wsL_placeOf) B.pre
  have hown : s.vm.findClass RL = some m.cls := findClass_of_methodNamed B.named
  have hlocks := B.notSynchronized
  subst hsz
  have hD := hD0.self (sz := s.heap.size)
  generalize hAe : va_A (wRo a cI cZ cD ki pl tu le ch ca (nI N) tk th hu od (nI M) ti be clk) s.heap.size = A at hD hH ⊢
  have hA : ∀ q : Nat, s.heap.size ≤ q → A q := fun q h => by rw [← hAe]; exact Or.inr h
  have hS : va_S A s.heap s.heap [] := va_S.rf
  have hP : va_P (dC, dI) vwCl (wRo a cI cZ cD ki pl tu le ch ca (nI N) tk th hu od (nI M) ti be clk) s.heap := hP
  have hl := lv_entry ([.ref (a 0), .int x]) (n := 4) (Nat.le_of_ble_eq_true rfl)
  rw [lg_entry_eq]
  generalize (lg_sl ([.ref (a 0), .int x]) ++ List.replicate (4 - (lg_sl ([.ref (a 0), .int x])).length) Slot.unset).toArray = ls at hl ⊢
  have hl : lv_has ls 4 [(0, .ref (a 0)), (1, .int x)] := hl
  have htab := vx_table (x := yL_placeOf) B (hts (.codeWith yL_placeOf cL_placeOf 4 (some .int) [(0, 6, 9, 24)]) List.mem_cons_self)
  refine lv_aload_n hx hb dL_placeOf_0 rfl (lv_at hl 0 rfl) ?_
  refine lv_iload_n hx hb dL_placeOf_1 rfl (lv_at hl 1 rfl) ?_
  refine zx_cVi (E := zx_I) (As := [.int x]) (rest := []) (wc := (wRo a cI cZ cD ki pl tu le ch ca (nI N) tk th hu od (nI M) ti be clk)) (wr := []) ⟨hx, hb, hml, hown, hts⟩ (c_X3_placeOf_bad l hl0 dC dI a cI cZ cD ki pl tu le ch ca N tk th hu od M ti be clk hN hM x hx0 s.heap.size) (cwV 1 hts gL_placeOf_X3_placeOf rfl rfl rfl (by decide +kernel) ⟨(Nat.le_of_ble_eq_true rfl), (Nat.le_of_ble_eq_true rfl)⟩) hK hP hD hS hA hH hE [0, 1, 2, 3, 4, 5, 6, 7, 8, 9, 10, 11, 12, 13, 14] [] [0, 1, 2, 3, 4, 5, 6, 7, 8, 9, 10, 11, 12, 13, 14] rfl rfl rfl rfl (by decide) rfl rfl (ci := 3) rfl 0 rfl rfl hl.1 rfl (Nat.le_of_ble_eq_true rfl) dL_placeOf_2 ⟨(Nat.le_of_ble_eq_true rfl), (Nat.le_of_ble_eq_true rfl)⟩ (fun H locs q9 ce hP hD hS hce hcv hcl hG => ?_)
  refine vx_catch (name := zx_I) hown [] ⟨0, 6, 9, 24⟩ [] htab (fun z hz => absurd hz List.not_mem_nil) (by decide) (by decide) (hts (.classLink RL 24 zx_I) (by decide +kernel)) (va_Nw.use rfl hE.1.1.1.2.2) hce hcv hcl ?_
  refine lv_astore_n (lv' := [(3, .ref q9), (0, .ref (a 0)), (1, .int x)]) hx hb dL_placeOf_9 rfl hl (by decide) rfl (fun ls hl => ?_)
  refine lv_bipush (v := (-61)) hx hb dL_placeOf_10 (by decide) ?_
  exact W.iret (v := (-61)) hx hb hr (zg_qi rfl hP hK hD hS hG) hS.2.2 dL_placeOf_12

set_option maxHeartbeats 4000000 in
set_option maxRecDepth 100000 in
theorem c_L_lampOf_bad (l : Launch) (hl0 : l.stackTraces = false) (dC : Nat → ClassId) (dI : Nat → Nat → Nat) (a : Nat → Nat) (cI cZ cD : ClassId) (ki pl tu le : Nat → Int32) (ch ca : Nat → UInt64) (N : Nat) (tk th hu od : Nat → Int32) (M : Nat) (ti : Int32) (be : Nat → Int32) (clk : Int32) (hN : N ≤ 40) (hM : M ≤ 30) (x : Int32) (hx0 : in_b x 0 (nI M - 1) = false) (sz : Nat) : zl_M l yL_lampOf wsL_lampOf ({ frames := 8, cells := 1, slots := 6, locals := 132 } : Room) (dC, dI) (zq_T cI cZ cD) [.ref (a 0), .int x] (wRo a cI cZ cD ki pl tu le ch ca (nI N) tk th hu od (nI M) ti be clk) (-61) sz := by
  refine va_MetW (cc := cL_lampOf) (maxL := 4) (ret := (some .int)) (by decide) rfl ?_
  intro p e s m args below meth c s₁ B hml hv
  obtain ⟨rfl, ⟨hsz, hP, hK, hD0⟩, hH, hE⟩ := hv
  have hx := B.exec
  have hb := B.bytes
  have hr := B.returns
  have hts := atoms_spec (ws := wsL_lampOf) B.pre
  have hown : s.vm.findClass RL = some m.cls := findClass_of_methodNamed B.named
  have hlocks := B.notSynchronized
  subst hsz
  have hD := hD0.self (sz := s.heap.size)
  generalize hAe : va_A (wRo a cI cZ cD ki pl tu le ch ca (nI N) tk th hu od (nI M) ti be clk) s.heap.size = A at hD hH ⊢
  have hA : ∀ q : Nat, s.heap.size ≤ q → A q := fun q h => by rw [← hAe]; exact Or.inr h
  have hS : va_S A s.heap s.heap [] := va_S.rf
  have hP : va_P (dC, dI) vwCl (wRo a cI cZ cD ki pl tu le ch ca (nI N) tk th hu od (nI M) ti be clk) s.heap := hP
  have hl := lv_entry ([.ref (a 0), .int x]) (n := 4) (Nat.le_of_ble_eq_true rfl)
  rw [lg_entry_eq]
  generalize (lg_sl ([.ref (a 0), .int x]) ++ List.replicate (4 - (lg_sl ([.ref (a 0), .int x])).length) Slot.unset).toArray = ls at hl ⊢
  have hl : lv_has ls 4 [(0, .ref (a 0)), (1, .int x)] := hl
  have htab := vx_table (x := yL_lampOf) B (hts (.codeWith yL_lampOf cL_lampOf 4 (some .int) [(0, 6, 9, 24)]) List.mem_cons_self)
  refine lv_aload_n hx hb dL_lampOf_0 rfl (lv_at hl 0 rfl) ?_
  refine lv_iload_n hx hb dL_lampOf_1 rfl (lv_at hl 1 rfl) ?_
  refine zx_cVi (E := zx_I) (As := [.int x]) (rest := []) (wc := (wRo a cI cZ cD ki pl tu le ch ca (nI N) tk th hu od (nI M) ti be clk)) (wr := []) ⟨hx, hb, hml, hown, hts⟩ (c_X3_lampOf_bad l hl0 dC dI a cI cZ cD ki pl tu le ch ca N tk th hu od M ti be clk hN hM x hx0 s.heap.size) (cwV 1 hts gL_lampOf_X3_lampOf rfl rfl rfl (by decide +kernel) ⟨(Nat.le_of_ble_eq_true rfl), (Nat.le_of_ble_eq_true rfl)⟩) hK hP hD hS hA hH hE [0, 1, 2, 3, 4, 5, 6, 7, 8, 9, 10, 11, 12, 13, 14] [] [0, 1, 2, 3, 4, 5, 6, 7, 8, 9, 10, 11, 12, 13, 14] rfl rfl rfl rfl (by decide) rfl rfl (ci := 3) rfl 0 rfl rfl hl.1 rfl (Nat.le_of_ble_eq_true rfl) dL_lampOf_2 ⟨(Nat.le_of_ble_eq_true rfl), (Nat.le_of_ble_eq_true rfl)⟩ (fun H locs q9 ce hP hD hS hce hcv hcl hG => ?_)
  refine vx_catch (name := zx_I) hown [] ⟨0, 6, 9, 24⟩ [] htab (fun z hz => absurd hz List.not_mem_nil) (by decide) (by decide) (hts (.classLink RL 24 zx_I) (by decide +kernel)) (va_Nw.use rfl hE.1.1.1.2.2) hce hcv hcl ?_
  refine lv_astore_n (lv' := [(3, .ref q9), (0, .ref (a 0)), (1, .int x)]) hx hb dL_lampOf_9 rfl hl (by decide) rfl (fun ls hl => ?_)
  refine lv_bipush (v := (-61)) hx hb dL_lampOf_10 (by decide) ?_
  exact W.iret (v := (-61)) hx hb hr (zg_qi rfl hP hK hD hS hG) hS.2.2 dL_lampOf_12

