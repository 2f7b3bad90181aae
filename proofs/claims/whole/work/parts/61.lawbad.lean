set_option maxHeartbeats 4000000 in
set_option maxRecDepth 100000 in
theorem c_L_addLamp_bad (l : Launch) (hl0 : l.stackTraces = false) (dC : Nat → ClassId) (dI : Nat → Nat → Nat) (a : Nat → Nat) (cI cZ cD : ClassId) (ki pl tu le : Nat → Int32) (ch ca : Nat → UInt64) (N : Nat) (tk th hu od : Nat → Int32) (M : Nat) (ti : Int32) (be : Nat → Int32) (clk : Int32) (hN : N ≤ 40) (hM : M ≤ 30) (k : Int32) (hk : in_b k 0 2 = false) (cJ : ClassId) (o : Nat) (ou : Nat → Int64) (sz : Nat) : zl_M l yL_addLamp wsL_addLamp ({ frames := 8, cells := 1, slots := 6, locals := 131 } : Room) (dC, dI) (zq_T4 cI cZ cD cJ) [.ref (a 0), .int k, .ref o] (wRl a cI cZ cD cJ o ki pl tu le ch ca (nI N) tk th hu od (nI M) ti be clk ou) 1 sz := by
  refine va_MetW (cc := cL_addLamp) (maxL := 4) (ret := (some .int)) (by decide) rfl ?_
  intro p e s m args below meth c s₁ B hml hv
  obtain ⟨rfl, ⟨hsz, hP, hK, hD0⟩, hH, hE⟩ := hv
  have hx := B.exec
  have hb := B.bytes
  have hr := B.returns
  have hts := atoms_spec (ws := wsL_addLamp) B.pre
  have hown : s.vm.findClass RL = some m.cls := findClass_of_methodNamed B.named
  have hlocks := B.notSynchronized
  subst hsz
  have hD := hD0.self (sz := s.heap.size)
  generalize hAe : va_A (wRl a cI cZ cD cJ o ki pl tu le ch ca (nI N) tk th hu od (nI M) ti be clk ou) s.heap.size = A at hD hH ⊢
  have hA : ∀ q : Nat, s.heap.size ≤ q → A q := fun q h => by rw [← hAe]; exact Or.inr h
  have hS : va_S A s.heap s.heap [] := va_S.rf
  have hP : va_P (dC, dI) vwCl (wRl a cI cZ cD cJ o ki pl tu le ch ca (nI N) tk th hu od (nI M) ti be clk ou) s.heap := hP
  have hl := lv_entry ([.ref (a 0), .int k, .ref o]) (n := 4) (Nat.le_of_ble_eq_true rfl)
  rw [lg_entry_eq]
  generalize (lg_sl ([.ref (a 0), .int k, .ref o]) ++ List.replicate (4 - (lg_sl ([.ref (a 0), .int k, .ref o])).length) Slot.unset).toArray = ls at hl ⊢
  have hl : lv_has ls 4 [(0, .ref (a 0)), (1, .int k), (2, .ref o)] := hl
  have htab := vx_table (x := yL_addLamp) B (hts (.codeWith yL_addLamp cL_addLamp 4 (some .int) [(0, 9, 12, 13), (0, 9, 15, 15)]) List.mem_cons_self)
  have hK3 : va_K (dC, dI) vwCl (zq_T cI cZ cD) s := hK.sub [0, 1, 2] rfl
  refine lv_aload_n hx hb dL_addLamp_0 rfl (lv_at hl 2 rfl) ?_
  refine lv_iconst (v := 0) hx hb dL_addLamp_1 (by decide) ?_
  refine lv_aload_n hx hb dL_addLamp_2 rfl (lv_at hl 0 rfl) ?_
  refine lv_iload_n hx hb dL_addLamp_3 rfl (lv_at hl 1 rfl) ?_
  refine zx_cVi (E := zx_A) (As := [.int k]) (rest := [.int 0, .ref o]) (wc := (wRo a cI cZ cD ki pl tu le ch ca (nI N) tk th hu od (nI M) ti be clk)) (wr := [(o, .inl (cJ, 1, .inr (.inl ou)))]) ⟨hx, hb, hml, hown, hts⟩ (c_X3_addLamp_bad l hl0 dC dI a cI cZ cD ki pl tu le ch ca N tk th hu od M ti be clk hN hM k hk s.heap.size) (cwV 1 hts gL_addLamp_X3_addLamp rfl rfl rfl (by decide +kernel) ⟨(Nat.le_of_ble_eq_true rfl), (Nat.le_of_ble_eq_true rfl)⟩) hK3 hP hD hS hA hH hE [0, 1, 2, 3, 4, 5, 6, 7, 8, 9, 10, 11, 12, 13, 14] [15] [1, 2, 3, 4, 5, 6, 7, 8, 9, 10, 11, 12, 13, 14, 15, 0] rfl rfl rfl rfl (by decide) rfl rfl (ci := 3) rfl 0 rfl rfl hl.1 rfl (Nat.le_of_ble_eq_true rfl) dL_addLamp_4 ⟨(Nat.le_of_ble_eq_true rfl), (Nat.le_of_ble_eq_true rfl)⟩ (fun H locs q9 ce hP hD hS hce hcv hcl => ?_)
  refine vx_catch (name := zx_A) hown [] ⟨0, 9, 12, 13⟩ [⟨0, 9, 15, 15⟩] htab (fun z hz => absurd hz List.not_mem_nil) (by decide) (by decide) (hts (.classLink RL 13 zx_A) (by decide +kernel)) (va_Nw.use rfl hE.1.1.1.1) hce hcv hcl ?_
  refine lv_astore_n (lv' := [(3, .ref q9), (0, .ref (a 0)), (1, .int k), (2, .ref o)]) hx hb dL_addLamp_12 rfl hl (by decide) rfl (fun ls hl => ?_)
  refine lv_iconst (v := 1) hx hb dL_addLamp_13 (by decide) ?_
  exact W.iret (v := 1) hx hb hr (zq_qi rfl hP hK hD hS) hS.2.2 dL_addLamp_14

set_option maxHeartbeats 4000000 in
set_option maxRecDepth 100000 in
theorem c_L_addLamp_full (l : Launch) (hl0 : l.stackTraces = false) (dC : Nat → ClassId) (dI : Nat → Nat → Nat) (a : Nat → Nat) (cI cZ cD : ClassId) (ki pl tu le : Nat → Int32) (ch ca : Nat → UInt64) (N : Nat) (tk th hu od : Nat → Int32) (M : Nat) (ti : Int32) (be : Nat → Int32) (clk : Int32) (hN : N ≤ 40) (hM : M ≤ 30) (k : Int32) (hk : in_b k 0 2 = true) (hf : N = 40) (cJ : ClassId) (o : Nat) (ou : Nat → Int64) (sz : Nat) : zl_M l yL_addLamp wsL_addLamp ({ frames := 7, cells := 1, slots := 6, locals := 111 } : Room) (dC, dI) (zq_T4 cI cZ cD cJ) [.ref (a 0), .int k, .ref o] (wRl a cI cZ cD cJ o ki pl tu le ch ca (nI N) tk th hu od (nI M) ti be clk ou) 2 sz := by
  refine va_MetW (cc := cL_addLamp) (maxL := 4) (ret := (some .int)) (by decide) rfl ?_
  intro p e s m args below meth c s₁ B hml hv
  obtain ⟨rfl, ⟨hsz, hP, hK, hD0⟩, hH, hE⟩ := hv
  have hx := B.exec
  have hb := B.bytes
  have hr := B.returns
  have hts := atoms_spec (ws := wsL_addLamp) B.pre
  have hown : s.vm.findClass RL = some m.cls := findClass_of_methodNamed B.named
  have hlocks := B.notSynchronized
  subst hsz
  have hD := hD0.self (sz := s.heap.size)
  generalize hAe : va_A (wRl a cI cZ cD cJ o ki pl tu le ch ca (nI N) tk th hu od (nI M) ti be clk ou) s.heap.size = A at hD hH ⊢
  have hA : ∀ q : Nat, s.heap.size ≤ q → A q := fun q h => by rw [← hAe]; exact Or.inr h
  have hS : va_S A s.heap s.heap [] := va_S.rf
  have hP : va_P (dC, dI) vwCl (wRl a cI cZ cD cJ o ki pl tu le ch ca (nI N) tk th hu od (nI M) ti be clk ou) s.heap := hP
  have hl := lv_entry ([.ref (a 0), .int k, .ref o]) (n := 4) (Nat.le_of_ble_eq_true rfl)
  rw [lg_entry_eq]
  generalize (lg_sl ([.ref (a 0), .int k, .ref o]) ++ List.replicate (4 - (lg_sl ([.ref (a 0), .int k, .ref o])).length) Slot.unset).toArray = ls at hl ⊢
  have hl : lv_has ls 4 [(0, .ref (a 0)), (1, .int k), (2, .ref o)] := hl
  have htab := vx_table (x := yL_addLamp) B (hts (.codeWith yL_addLamp cL_addLamp 4 (some .int) [(0, 9, 12, 13), (0, 9, 15, 15)]) List.mem_cons_self)
  have hK3 : va_K (dC, dI) vwCl (zq_T cI cZ cD) s := hK.sub [0, 1, 2] rfl
  refine lv_aload_n hx hb dL_addLamp_0 rfl (lv_at hl 2 rfl) ?_
  refine lv_iconst (v := 0) hx hb dL_addLamp_1 (by decide) ?_
  refine lv_aload_n hx hb dL_addLamp_2 rfl (lv_at hl 0 rfl) ?_
  refine lv_iload_n hx hb dL_addLamp_3 rfl (lv_at hl 1 rfl) ?_
  refine zx_cVi (E := zx_S) (As := [.int k]) (rest := [.int 0, .ref o]) (wc := (wRo a cI cZ cD ki pl tu le ch ca (nI N) tk th hu od (nI M) ti be clk)) (wr := [(o, .inl (cJ, 1, .inr (.inl ou)))]) ⟨hx, hb, hml, hown, hts⟩ (c_X3_addLamp_full l hl0 dC dI a cI cZ cD ki pl tu le ch ca N tk th hu od M ti be clk hN hM k hk hf s.heap.size) (cwV 1 hts gL_addLamp_X3_addLamp rfl rfl rfl (by decide +kernel) ⟨(Nat.le_of_ble_eq_true rfl), (Nat.le_of_ble_eq_true rfl)⟩) hK3 hP hD hS hA hH hE [0, 1, 2, 3, 4, 5, 6, 7, 8, 9, 10, 11, 12, 13, 14] [15] [1, 2, 3, 4, 5, 6, 7, 8, 9, 10, 11, 12, 13, 14, 15, 0] rfl rfl rfl rfl (by decide) rfl rfl (ci := 3) rfl 0 rfl rfl hl.1 rfl (Nat.le_of_ble_eq_true rfl) dL_addLamp_4 ⟨(Nat.le_of_ble_eq_true rfl), (Nat.le_of_ble_eq_true rfl)⟩ (fun H locs q9 ce hP hD hS hce hcv hcl => ?_)
  refine vx_catch (name := zx_S) hown [⟨0, 9, 12, 13⟩] ⟨0, 9, 15, 15⟩ [] htab (fun z hz => by rw [List.mem_singleton.mp hz]; exact Or.inr ⟨by decide, zx_A, hts (.classLink RL 13 zx_A) (by decide +kernel), hE.1.1.2.1⟩) (by decide) (by decide) (hts (.classLink RL 15 zx_S) (by decide +kernel)) (va_Nw.use rfl hE.1.1.1.2.1) hce hcv hcl ?_
  refine lv_astore_n (lv' := [(3, .ref q9), (0, .ref (a 0)), (1, .int k), (2, .ref o)]) hx hb dL_addLamp_15 rfl hl (by decide) rfl (fun ls hl => ?_)
  refine lv_iconst (v := 2) hx hb dL_addLamp_16 (by decide) ?_
  exact W.iret (v := 2) hx hb hr (zq_qi rfl hP hK hD hS) hS.2.2 dL_addLamp_17

set_option maxHeartbeats 4000000 in
set_option maxRecDepth 100000 in
theorem c_L_addMiner_bad (l : Launch) (hl0 : l.stackTraces = false) (dC : Nat → ClassId) (dI : Nat → Nat → Nat) (a : Nat → Nat) (cI cZ cD : ClassId) (ki pl tu le : Nat → Int32) (ch ca : Nat → UInt64) (N : Nat) (tk th hu od : Nat → Int32) (M : Nat) (ti : Int32) (be : Nat → Int32) (clk : Int32) (hN : N ≤ 40) (hM : M ≤ 30) (k : Int32) (hk : in_b k 0 2 = false) (cJ : ClassId) (o : Nat) (ou : Nat → Int64) (sz : Nat) : zl_M l yL_addMiner wsL_addMiner ({ frames := 8, cells := 1, slots := 6, locals := 131 } : Room) (dC, dI) (zq_T4 cI cZ cD cJ) [.ref (a 0), .int k, .ref o] (wRl a cI cZ cD cJ o ki pl tu le ch ca (nI N) tk th hu od (nI M) ti be clk ou) 1 sz := by
  refine va_MetW (cc := cL_addMiner) (maxL := 4) (ret := (some .int)) (by decide) rfl ?_
  intro p e s m args below meth c s₁ B hml hv
  obtain ⟨rfl, ⟨hsz, hP, hK, hD0⟩, hH, hE⟩ := hv
  have hx := B.exec
  have hb := B.bytes
  have hr := B.returns
  have hts := atoms_spec (ws := wsL_addMiner) B.pre
  have hown : s.vm.findClass RL = some m.cls := findClass_of_methodNamed B.named
  have hlocks := B.notSynchronized
  subst hsz
  have hD := hD0.self (sz := s.heap.size)
  generalize hAe : va_A (wRl a cI cZ cD cJ o ki pl tu le ch ca (nI N) tk th hu od (nI M) ti be clk ou) s.heap.size = A at hD hH ⊢
  have hA : ∀ q : Nat, s.heap.size ≤ q → A q := fun q h => by rw [← hAe]; exact Or.inr h
  have hS : va_S A s.heap s.heap [] := va_S.rf
  have hP : va_P (dC, dI) vwCl (wRl a cI cZ cD cJ o ki pl tu le ch ca (nI N) tk th hu od (nI M) ti be clk ou) s.heap := hP
  have hl := lv_entry ([.ref (a 0), .int k, .ref o]) (n := 4) (Nat.le_of_ble_eq_true rfl)
  rw [lg_entry_eq]
  generalize (lg_sl ([.ref (a 0), .int k, .ref o]) ++ List.replicate (4 - (lg_sl ([.ref (a 0), .int k, .ref o])).length) Slot.unset).toArray = ls at hl ⊢
  have hl : lv_has ls 4 [(0, .ref (a 0)), (1, .int k), (2, .ref o)] := hl
  have htab := vx_table (x := yL_addMiner) B (hts (.codeWith yL_addMiner cL_addMiner 4 (some .int) [(0, 9, 12, 13), (0, 9, 15, 15)]) List.mem_cons_self)
  have hK3 : va_K (dC, dI) vwCl (zq_T cI cZ cD) s := hK.sub [0, 1, 2] rfl
  refine lv_aload_n hx hb dL_addMiner_0 rfl (lv_at hl 2 rfl) ?_
  refine lv_iconst (v := 0) hx hb dL_addMiner_1 (by decide) ?_
  refine lv_aload_n hx hb dL_addMiner_2 rfl (lv_at hl 0 rfl) ?_
  refine lv_iload_n hx hb dL_addMiner_3 rfl (lv_at hl 1 rfl) ?_
  refine zx_cVi (E := zx_A) (As := [.int k]) (rest := [.int 0, .ref o]) (wc := (wRo a cI cZ cD ki pl tu le ch ca (nI N) tk th hu od (nI M) ti be clk)) (wr := [(o, .inl (cJ, 1, .inr (.inl ou)))]) ⟨hx, hb, hml, hown, hts⟩ (c_X3_addMiner_bad l hl0 dC dI a cI cZ cD ki pl tu le ch ca N tk th hu od M ti be clk hN hM k hk s.heap.size) (cwV 1 hts gL_addMiner_X3_addMiner rfl rfl rfl (by decide +kernel) ⟨(Nat.le_of_ble_eq_true rfl), (Nat.le_of_ble_eq_true rfl)⟩) hK3 hP hD hS hA hH hE [0, 1, 2, 3, 4, 5, 6, 7, 8, 9, 10, 11, 12, 13, 14] [15] [1, 2, 3, 4, 5, 6, 7, 8, 9, 10, 11, 12, 13, 14, 15, 0] rfl rfl rfl rfl (by decide) rfl rfl (ci := 3) rfl 0 rfl rfl hl.1 rfl (Nat.le_of_ble_eq_true rfl) dL_addMiner_4 ⟨(Nat.le_of_ble_eq_true rfl), (Nat.le_of_ble_eq_true rfl)⟩ (fun H locs q9 ce hP hD hS hce hcv hcl => ?_)
  refine vx_catch (name := zx_A) hown [] ⟨0, 9, 12, 13⟩ [⟨0, 9, 15, 15⟩] htab (fun z hz => absurd hz List.not_mem_nil) (by decide) (by decide) (hts (.classLink RL 13 zx_A) (by decide +kernel)) (va_Nw.use rfl hE.1.1.1.1) hce hcv hcl ?_
  refine lv_astore_n (lv' := [(3, .ref q9), (0, .ref (a 0)), (1, .int k), (2, .ref o)]) hx hb dL_addMiner_12 rfl hl (by decide) rfl (fun ls hl => ?_)
  refine lv_iconst (v := 1) hx hb dL_addMiner_13 (by decide) ?_
  exact W.iret (v := 1) hx hb hr (zq_qi rfl hP hK hD hS) hS.2.2 dL_addMiner_14

set_option maxHeartbeats 4000000 in
set_option maxRecDepth 100000 in
theorem c_L_addMiner_full (l : Launch) (hl0 : l.stackTraces = false) (dC : Nat → ClassId) (dI : Nat → Nat → Nat) (a : Nat → Nat) (cI cZ cD : ClassId) (ki pl tu le : Nat → Int32) (ch ca : Nat → UInt64) (N : Nat) (tk th hu od : Nat → Int32) (M : Nat) (ti : Int32) (be : Nat → Int32) (clk : Int32) (hN : N ≤ 40) (hM : M ≤ 30) (k : Int32) (hk : in_b k 0 2 = true) (hf : M = 30) (cJ : ClassId) (o : Nat) (ou : Nat → Int64) (sz : Nat) : zl_M l yL_addMiner wsL_addMiner ({ frames := 7, cells := 1, slots := 6, locals := 111 } : Room) (dC, dI) (zq_T4 cI cZ cD cJ) [.ref (a 0), .int k, .ref o] (wRl a cI cZ cD cJ o ki pl tu le ch ca (nI N) tk th hu od (nI M) ti be clk ou) 2 sz := by
  refine va_MetW (cc := cL_addMiner) (maxL := 4) (ret := (some .int)) (by decide) rfl ?_
  intro p e s m args below meth c s₁ B hml hv
  obtain ⟨rfl, ⟨hsz, hP, hK, hD0⟩, hH, hE⟩ := hv
  have hx := B.exec
  have hb := B.bytes
  have hr := B.returns
  have hts := atoms_spec (ws := wsL_addMiner) B.pre
  have hown : s.vm.findClass RL = some m.cls := findClass_of_methodNamed B.named
  have hlocks := B.notSynchronized
  subst hsz
  have hD := hD0.self (sz := s.heap.size)
  generalize hAe : va_A (wRl a cI cZ cD cJ o ki pl tu le ch ca (nI N) tk th hu od (nI M) ti be clk ou) s.heap.size = A at hD hH ⊢
  have hA : ∀ q : Nat, s.heap.size ≤ q → A q := fun q h => by rw [← hAe]; exact Or.inr h
  have hS : va_S A s.heap s.heap [] := va_S.rf
  have hP : va_P (dC, dI) vwCl (wRl a cI cZ cD cJ o ki pl tu le ch ca (nI N) tk th hu od (nI M) ti be clk ou) s.heap := hP
  have hl := lv_entry ([.ref (a 0), .int k, .ref o]) (n := 4) (Nat.le_of_ble_eq_true rfl)
  rw [lg_entry_eq]
  generalize (lg_sl ([.ref (a 0), .int k, .ref o]) ++ List.replicate (4 - (lg_sl ([.ref (a 0), .int k, .ref o])).length) Slot.unset).toArray = ls at hl ⊢
  have hl : lv_has ls 4 [(0, .ref (a 0)), (1, .int k), (2, .ref o)] := hl
  have htab := vx_table (x := yL_addMiner) B (hts (.codeWith yL_addMiner cL_addMiner 4 (some .int) [(0, 9, 12, 13), (0, 9, 15, 15)]) List.mem_cons_self)
  have hK3 : va_K (dC, dI) vwCl (zq_T cI cZ cD) s := hK.sub [0, 1, 2] rfl
  refine lv_aload_n hx hb dL_addMiner_0 rfl (lv_at hl 2 rfl) ?_
  refine lv_iconst (v := 0) hx hb dL_addMiner_1 (by decide) ?_
  refine lv_aload_n hx hb dL_addMiner_2 rfl (lv_at hl 0 rfl) ?_
  refine lv_iload_n hx hb dL_addMiner_3 rfl (lv_at hl 1 rfl) ?_
  refine zx_cVi (E := zx_S) (As := [.int k]) (rest := [.int 0, .ref o]) (wc := (wRo a cI cZ cD ki pl tu le ch ca (nI N) tk th hu od (nI M) ti be clk)) (wr := [(o, .inl (cJ, 1, .inr (.inl ou)))]) ⟨hx, hb, hml, hown, hts⟩ (c_X3_addMiner_full l hl0 dC dI a cI cZ cD ki pl tu le ch ca N tk th hu od M ti be clk hN hM k hk hf s.heap.size) (cwV 1 hts gL_addMiner_X3_addMiner rfl rfl rfl (by decide +kernel) ⟨(Nat.le_of_ble_eq_true rfl), (Nat.le_of_ble_eq_true rfl)⟩) hK3 hP hD hS hA hH hE [0, 1, 2, 3, 4, 5, 6, 7, 8, 9, 10, 11, 12, 13, 14] [15] [1, 2, 3, 4, 5, 6, 7, 8, 9, 10, 11, 12, 13, 14, 15, 0] rfl rfl rfl rfl (by decide) rfl rfl (ci := 3) rfl 0 rfl rfl hl.1 rfl (Nat.le_of_ble_eq_true rfl) dL_addMiner_4 ⟨(Nat.le_of_ble_eq_true rfl), (Nat.le_of_ble_eq_true rfl)⟩ (fun H locs q9 ce hP hD hS hce hcv hcl => ?_)
  refine vx_catch (name := zx_S) hown [⟨0, 9, 12, 13⟩] ⟨0, 9, 15, 15⟩ [] htab (fun z hz => by rw [List.mem_singleton.mp hz]; exact Or.inr ⟨by decide, zx_A, hts (.classLink RL 13 zx_A) (by decide +kernel), hE.1.1.2.1⟩) (by decide) (by decide) (hts (.classLink RL 15 zx_S) (by decide +kernel)) (va_Nw.use rfl hE.1.1.1.2.1) hce hcv hcl ?_
  refine lv_astore_n (lv' := [(3, .ref q9), (0, .ref (a 0)), (1, .int k), (2, .ref o)]) hx hb dL_addMiner_15 rfl hl (by decide) rfl (fun ls hl => ?_)
  refine lv_iconst (v := 2) hx hb dL_addMiner_16 (by decide) ?_
  exact W.iret (v := 2) hx hb hr (zq_qi rfl hP hK hD hS) hS.2.2 dL_addMiner_17

set_option maxHeartbeats 4000000 in
set_option maxRecDepth 100000 in
theorem c_L_issue_bad (l : Launch) (hl0 : l.stackTraces = false) (dC : Nat → ClassId) (dI : Nat → Nat → Nat) (a : Nat → Nat) (cI cZ cD : ClassId) (ki pl tu le : Nat → Int32) (ch ca : Nat → UInt64) (N : Nat) (tk th hu od : Nat → Int32) (M : Nat) (ti : Int32) (be : Nat → Int32) (clk : Int32) (hN : N ≤ 40) (hM : M ≤ 30) (x : Int32) (hx0 : in_b x 0 (nI M - 1) = false) (cJ : ClassId) (o : Nat) (ou : Nat → Int64) (sz : Nat) : zl_M l yL_issue wsL_issue ({ frames := 8, cells := 1, slots := 6, locals := 133 } : Room) (dC, dI) (zq_T4 cI cZ cD cJ) [.ref (a 0), .int x, .ref o] (wRl a cI cZ cD cJ o ki pl tu le ch ca (nI N) tk th hu od (nI M) ti be clk ou) 1 sz := by
  refine va_MetW (cc := cL_issue) (maxL := 4) (ret := (some .int)) (by decide) rfl ?_
  intro p e s m args below meth c s₁ B hml hv
  obtain ⟨rfl, ⟨hsz, hP, hK, hD0⟩, hH, hE⟩ := hv
  have hx := B.exec
  have hb := B.bytes
  have hr := B.returns
  have hts := atoms_spec (ws := wsL_issue) B.pre
  have hown : s.vm.findClass RL = some m.cls := findClass_of_methodNamed B.named
  have hlocks := B.notSynchronized
  subst hsz
  have hD := hD0.self (sz := s.heap.size)
  generalize hAe : va_A (wRl a cI cZ cD cJ o ki pl tu le ch ca (nI N) tk th hu od (nI M) ti be clk ou) s.heap.size = A at hD hH ⊢
  have hA : ∀ q : Nat, s.heap.size ≤ q → A q := fun q h => by rw [← hAe]; exact Or.inr h
  have hS : va_S A s.heap s.heap [] := va_S.rf
  have hP : va_P (dC, dI) vwCl (wRl a cI cZ cD cJ o ki pl tu le ch ca (nI N) tk th hu od (nI M) ti be clk ou) s.heap := hP
  have hl := lv_entry ([.ref (a 0), .int x, .ref o]) (n := 4) (Nat.le_of_ble_eq_true rfl)
  rw [lg_entry_eq]
  generalize (lg_sl ([.ref (a 0), .int x, .ref o]) ++ List.replicate (4 - (lg_sl ([.ref (a 0), .int x, .ref o])).length) Slot.unset).toArray = ls at hl ⊢
  have hl : lv_has ls 4 [(0, .ref (a 0)), (1, .int x), (2, .ref o)] := hl
  have htab := vx_table (x := yL_issue) B (hts (.codeWith yL_issue cL_issue 4 (some .int) [(0, 9, 12, 23), (0, 9, 15, 15)]) List.mem_cons_self)
  have hK3 : va_K (dC, dI) vwCl (zq_T cI cZ cD) s := hK.sub [0, 1, 2] rfl
  refine lv_aload_n hx hb dL_issue_0 rfl (lv_at hl 2 rfl) ?_
  refine lv_iconst (v := 0) hx hb dL_issue_1 (by decide) ?_
  refine lv_aload_n hx hb dL_issue_2 rfl (lv_at hl 0 rfl) ?_
  refine lv_iload_n hx hb dL_issue_3 rfl (lv_at hl 1 rfl) ?_
  refine zx_cVi (E := zx_I) (As := [.int x]) (rest := [.int 0, .ref o]) (wc := (wRo a cI cZ cD ki pl tu le ch ca (nI N) tk th hu od (nI M) ti be clk)) (wr := [(o, .inl (cJ, 1, .inr (.inl ou)))]) ⟨hx, hb, hml, hown, hts⟩ (c_X3_issue_bad l hl0 dC dI a cI cZ cD ki pl tu le ch ca N tk th hu od M ti be clk hN hM x hx0 s.heap.size) (cwV 1 hts gL_issue_X3_issue rfl rfl rfl (by decide +kernel) ⟨(Nat.le_of_ble_eq_true rfl), (Nat.le_of_ble_eq_true rfl)⟩) hK3 hP hD hS hA hH hE [0, 1, 2, 3, 4, 5, 6, 7, 8, 9, 10, 11, 12, 13, 14] [15] [1, 2, 3, 4, 5, 6, 7, 8, 9, 10, 11, 12, 13, 14, 15, 0] rfl rfl rfl rfl (by decide) rfl rfl (ci := 3) rfl 0 rfl rfl hl.1 rfl (Nat.le_of_ble_eq_true rfl) dL_issue_4 ⟨(Nat.le_of_ble_eq_true rfl), (Nat.le_of_ble_eq_true rfl)⟩ (fun H locs q9 ce hP hD hS hce hcv hcl => ?_)
  refine vx_catch (name := zx_I) hown [] ⟨0, 9, 12, 23⟩ [⟨0, 9, 15, 15⟩] htab (fun z hz => absurd hz List.not_mem_nil) (by decide) (by decide) (hts (.classLink RL 23 zx_I) (by decide +kernel)) (va_Nw.use rfl hE.1.1.1.2.2) hce hcv hcl ?_
  refine lv_astore_n (lv' := [(3, .ref q9), (0, .ref (a 0)), (1, .int x), (2, .ref o)]) hx hb dL_issue_12 rfl hl (by decide) rfl (fun ls hl => ?_)
  refine lv_iconst (v := 1) hx hb dL_issue_13 (by decide) ?_
  exact W.iret (v := 1) hx hb hr (zq_qi rfl hP hK hD hS) hS.2.2 dL_issue_14

set_option maxHeartbeats 4000000 in
set_option maxRecDepth 100000 in
theorem c_L_issue_busy (l : Launch) (hl0 : l.stackTraces = false) (dC : Nat → ClassId) (dI : Nat → Nat → Nat) (a : Nat → Nat) (cI cZ cD : ClassId) (ki pl tu le : Nat → Int32) (ch ca : Nat → UInt64) (N : Nat) (tk th hu od : Nat → Int32) (M : Nat) (ti : Int32) (be : Nat → Int32) (clk : Int32) (hN : N ≤ 40) (hM : M ≤ 30) (mi : Nat) (hm : mi < M) (hla : ¬ th mi = -1) (cJ : ClassId) (o : Nat) (ou : Nat → Int64) (sz : Nat) : zl_M l yL_issue wsL_issue ({ frames := 7, cells := 1, slots := 6, locals := 112 } : Room) (dC, dI) (zq_T4 cI cZ cD cJ) [.ref (a 0), .int (nI mi), .ref o] (wRl a cI cZ cD cJ o ki pl tu le ch ca (nI N) tk th hu od (nI M) ti be clk ou) 2 sz := by
  refine va_MetW (cc := cL_issue) (maxL := 4) (ret := (some .int)) (by decide) rfl ?_
  intro p e s m args below meth c s₁ B hml hv
  obtain ⟨rfl, ⟨hsz, hP, hK, hD0⟩, hH, hE⟩ := hv
  have hx := B.exec
  have hb := B.bytes
  have hr := B.returns
  have hts := atoms_spec (ws := wsL_issue) B.pre
  have hown : s.vm.findClass RL = some m.cls := findClass_of_methodNamed B.named
  have hlocks := B.notSynchronized
  subst hsz
  have hD := hD0.self (sz := s.heap.size)
  generalize hAe : va_A (wRl a cI cZ cD cJ o ki pl tu le ch ca (nI N) tk th hu od (nI M) ti be clk ou) s.heap.size = A at hD hH ⊢
  have hA : ∀ q : Nat, s.heap.size ≤ q → A q := fun q h => by rw [← hAe]; exact Or.inr h
  have hS : va_S A s.heap s.heap [] := va_S.rf
  have hP : va_P (dC, dI) vwCl (wRl a cI cZ cD cJ o ki pl tu le ch ca (nI N) tk th hu od (nI M) ti be clk ou) s.heap := hP
  have hl := lv_entry ([.ref (a 0), .int (nI mi), .ref o]) (n := 4) (Nat.le_of_ble_eq_true rfl)
  rw [lg_entry_eq]
  generalize (lg_sl ([.ref (a 0), .int (nI mi), .ref o]) ++ List.replicate (4 - (lg_sl ([.ref (a 0), .int (nI mi), .ref o])).length) Slot.unset).toArray = ls at hl ⊢
  have hl : lv_has ls 4 [(0, .ref (a 0)), (1, .int (nI mi)), (2, .ref o)] := hl
  have htab := vx_table (x := yL_issue) B (hts (.codeWith yL_issue cL_issue 4 (some .int) [(0, 9, 12, 23), (0, 9, 15, 15)]) List.mem_cons_self)
  have hK3 : va_K (dC, dI) vwCl (zq_T cI cZ cD) s := hK.sub [0, 1, 2] rfl
  refine lv_aload_n hx hb dL_issue_0 rfl (lv_at hl 2 rfl) ?_
  refine lv_iconst (v := 0) hx hb dL_issue_1 (by decide) ?_
  refine lv_aload_n hx hb dL_issue_2 rfl (lv_at hl 0 rfl) ?_
  refine lv_iload_n hx hb dL_issue_3 rfl (lv_at hl 1 rfl) ?_
  refine zx_cVi (E := zx_S) (As := [.int (nI mi)]) (rest := [.int 0, .ref o]) (wc := (wRo a cI cZ cD ki pl tu le ch ca (nI N) tk th hu od (nI M) ti be clk)) (wr := [(o, .inl (cJ, 1, .inr (.inl ou)))]) ⟨hx, hb, hml, hown, hts⟩ (c_X3_issue_busy l hl0 dC dI a cI cZ cD ki pl tu le ch ca N tk th hu od M ti be clk hN hM mi hm hla s.heap.size) (cwV 1 hts gL_issue_X3_issue rfl rfl rfl (by decide +kernel) ⟨(Nat.le_of_ble_eq_true rfl), (Nat.le_of_ble_eq_true rfl)⟩) hK3 hP hD hS hA hH hE [0, 1, 2, 3, 4, 5, 6, 7, 8, 9, 10, 11, 12, 13, 14] [15] [1, 2, 3, 4, 5, 6, 7, 8, 9, 10, 11, 12, 13, 14, 15, 0] rfl rfl rfl rfl (by decide) rfl rfl (ci := 3) rfl 0 rfl rfl hl.1 rfl (Nat.le_of_ble_eq_true rfl) dL_issue_4 ⟨(Nat.le_of_ble_eq_true rfl), (Nat.le_of_ble_eq_true rfl)⟩ (fun H locs q9 ce hP hD hS hce hcv hcl => ?_)
  refine vx_catch (name := zx_S) hown [⟨0, 9, 12, 23⟩] ⟨0, 9, 15, 15⟩ [] htab (fun z hz => by rw [List.mem_singleton.mp hz]; exact Or.inr ⟨by decide, zx_I, hts (.classLink RL 23 zx_I) (by decide +kernel), hE.1.1.2.2⟩) (by decide) (by decide) (hts (.classLink RL 15 zx_S) (by decide +kernel)) (va_Nw.use rfl hE.1.1.1.2.1) hce hcv hcl ?_
  refine lv_astore_n (lv' := [(3, .ref q9), (0, .ref (a 0)), (1, .int (nI mi)), (2, .ref o)]) hx hb dL_issue_15 rfl hl (by decide) rfl (fun ls hl => ?_)
  refine lv_iconst (v := 2) hx hb dL_issue_16 (by decide) ?_
  exact W.iret (v := 2) hx hb hr (zq_qi rfl hP hK hD hS) hS.2.2 dL_issue_17

set_option maxHeartbeats 4000000 in
set_option maxRecDepth 100000 in
theorem c_L_issue_none (l : Launch) (hl0 : l.stackTraces = false) (dC : Nat → ClassId) (dI : Nat → Nat → Nat) (a : Nat → Nat) (cI cZ cD : ClassId) (ki pl tu le : Nat → Int32) (ch ca : Nat → UInt64) (N : Nat) (tk th hu od : Nat → Int32) (M : Nat) (ti : Int32) (be : Nat → Int32) (clk : Int32) (hN : N ≤ 40) (hM : M ≤ 30) (mi : Nat) (hm : mi < M) (hla : th mi = -1) (w : Nat) (hw : w < 3) (hwa : tk mi = nI w) (hb0 : la_best ki pl ch N (3 - w) w = -1) (cJ : ClassId) (o : Nat) (ou : Nat → Int64) (sz : Nat) : zl_M l yL_issue wsL_issue ({ frames := 7, cells := 1, slots := 6, locals := 112 } : Room) (dC, dI) (zq_T4 cI cZ cD cJ) [.ref (a 0), .int (nI mi), .ref o] (wRl a cI cZ cD cJ o ki pl tu le ch ca (nI N) tk th hu od (nI M) ti be clk ou) 2 sz := by
  refine va_MetW (cc := cL_issue) (maxL := 4) (ret := (some .int)) (by decide) rfl ?_
  intro p e s m args below meth c s₁ B hml hv
  obtain ⟨rfl, ⟨hsz, hP, hK, hD0⟩, hH, hE⟩ := hv
  have hx := B.exec
  have hb := B.bytes
  have hr := B.returns
  have hts := atoms_spec (ws := wsL_issue) B.pre
  have hown : s.vm.findClass RL = some m.cls := findClass_of_methodNamed B.named
  have hlocks := B.notSynchronized
  subst hsz
  have hD := hD0.self (sz := s.heap.size)
  generalize hAe : va_A (wRl a cI cZ cD cJ o ki pl tu le ch ca (nI N) tk th hu od (nI M) ti be clk ou) s.heap.size = A at hD hH ⊢
  have hA : ∀ q : Nat, s.heap.size ≤ q → A q := fun q h => by rw [← hAe]; exact Or.inr h
  have hS : va_S A s.heap s.heap [] := va_S.rf
  have hP : va_P (dC, dI) vwCl (wRl a cI cZ cD cJ o ki pl tu le ch ca (nI N) tk th hu od (nI M) ti be clk ou) s.heap := hP
  have hl := lv_entry ([.ref (a 0), .int (nI mi), .ref o]) (n := 4) (Nat.le_of_ble_eq_true rfl)
  rw [lg_entry_eq]
  generalize (lg_sl ([.ref (a 0), .int (nI mi), .ref o]) ++ List.replicate (4 - (lg_sl ([.ref (a 0), .int (nI mi), .ref o])).length) Slot.unset).toArray = ls at hl ⊢
  have hl : lv_has ls 4 [(0, .ref (a 0)), (1, .int (nI mi)), (2, .ref o)] := hl
  have htab := vx_table (x := yL_issue) B (hts (.codeWith yL_issue cL_issue 4 (some .int) [(0, 9, 12, 23), (0, 9, 15, 15)]) List.mem_cons_self)
  have hK3 : va_K (dC, dI) vwCl (zq_T cI cZ cD) s := hK.sub [0, 1, 2] rfl
  refine lv_aload_n hx hb dL_issue_0 rfl (lv_at hl 2 rfl) ?_
  refine lv_iconst (v := 0) hx hb dL_issue_1 (by decide) ?_
  refine lv_aload_n hx hb dL_issue_2 rfl (lv_at hl 0 rfl) ?_
  refine lv_iload_n hx hb dL_issue_3 rfl (lv_at hl 1 rfl) ?_
  refine zx_cVi (E := zx_S) (As := [.int (nI mi)]) (rest := [.int 0, .ref o]) (wc := (wRo a cI cZ cD ki pl tu le ch ca (nI N) tk th hu od (nI M) ti be clk)) (wr := [(o, .inl (cJ, 1, .inr (.inl ou)))]) ⟨hx, hb, hml, hown, hts⟩ (c_X3_issue_none l hl0 dC dI a cI cZ cD ki pl tu le ch ca N tk th hu od M ti be clk hN hM mi hm hla w hw hwa hb0 s.heap.size) (cwV 1 hts gL_issue_X3_issue rfl rfl rfl (by decide +kernel) ⟨(Nat.le_of_ble_eq_true rfl), (Nat.le_of_ble_eq_true rfl)⟩) hK3 hP hD hS hA hH hE [0, 1, 2, 3, 4, 5, 6, 7, 8, 9, 10, 11, 12, 13, 14] [15] [1, 2, 3, 4, 5, 6, 7, 8, 9, 10, 11, 12, 13, 14, 15, 0] rfl rfl rfl rfl (by decide) rfl rfl (ci := 3) rfl 0 rfl rfl hl.1 rfl (Nat.le_of_ble_eq_true rfl) dL_issue_4 ⟨(Nat.le_of_ble_eq_true rfl), (Nat.le_of_ble_eq_true rfl)⟩ (fun H locs q9 ce hP hD hS hce hcv hcl => ?_)
  refine vx_catch (name := zx_S) hown [⟨0, 9, 12, 23⟩] ⟨0, 9, 15, 15⟩ [] htab (fun z hz => by rw [List.mem_singleton.mp hz]; exact Or.inr ⟨by decide, zx_I, hts (.classLink RL 23 zx_I) (by decide +kernel), hE.1.1.2.2⟩) (by decide) (by decide) (hts (.classLink RL 15 zx_S) (by decide +kernel)) (va_Nw.use rfl hE.1.1.1.2.1) hce hcv hcl ?_
  refine lv_astore_n (lv' := [(3, .ref q9), (0, .ref (a 0)), (1, .int (nI mi)), (2, .ref o)]) hx hb dL_issue_15 rfl hl (by decide) rfl (fun ls hl => ?_)
  refine lv_iconst (v := 2) hx hb dL_issue_16 (by decide) ?_
  exact W.iret (v := 2) hx hb hr (zq_qi rfl hP hK hD hS) hS.2.2 dL_issue_17

set_option maxHeartbeats 4000000 in
set_option maxRecDepth 100000 in
theorem c_L_back_bad (l : Launch) (hl0 : l.stackTraces = false) (dC : Nat → ClassId) (dI : Nat → Nat → Nat) (a : Nat → Nat) (cI cZ cD : ClassId) (ki pl tu le : Nat → Int32) (ch ca : Nat → UInt64) (N : Nat) (tk th hu od : Nat → Int32) (M : Nat) (ti : Int32) (be : Nat → Int32) (clk : Int32) (hN : N ≤ 40) (hM : M ≤ 30) (x : Int32) (hx0 : in_b x 0 (nI M - 1) = false) (cJ : ClassId) (o : Nat) (ou : Nat → Int64) (sz : Nat) : zl_M l yL_back wsL_back ({ frames := 8, cells := 1, slots := 6, locals := 134 } : Room) (dC, dI) (zq_T4 cI cZ cD cJ) [.ref (a 0), .int x, .ref o] (wRl a cI cZ cD cJ o ki pl tu le ch ca (nI N) tk th hu od (nI M) ti be clk ou) 1 sz := by
  refine va_MetW (cc := cL_back) (maxL := 4) (ret := (some .int)) (by decide) rfl ?_
  intro p e s m args below meth c s₁ B hml hv
  obtain ⟨rfl, ⟨hsz, hP, hK, hD0⟩, hH, hE⟩ := hv
  have hx := B.exec
  have hb := B.bytes
  have hr := B.returns
  have hts := atoms_spec (ws := wsL_back) B.pre
  have hown : s.vm.findClass RL = some m.cls := findClass_of_methodNamed B.named
  have hlocks := B.notSynchronized
  subst hsz
  have hD := hD0.self (sz := s.heap.size)
  generalize hAe : va_A (wRl a cI cZ cD cJ o ki pl tu le ch ca (nI N) tk th hu od (nI M) ti be clk ou) s.heap.size = A at hD hH ⊢
  have hA : ∀ q : Nat, s.heap.size ≤ q → A q := fun q h => by rw [← hAe]; exact Or.inr h
  have hS : va_S A s.heap s.heap [] := va_S.rf
  have hP : va_P (dC, dI) vwCl (wRl a cI cZ cD cJ o ki pl tu le ch ca (nI N) tk th hu od (nI M) ti be clk ou) s.heap := hP
  have hl := lv_entry ([.ref (a 0), .int x, .ref o]) (n := 4) (Nat.le_of_ble_eq_true rfl)
  rw [lg_entry_eq]
  generalize (lg_sl ([.ref (a 0), .int x, .ref o]) ++ List.replicate (4 - (lg_sl ([.ref (a 0), .int x, .ref o])).length) Slot.unset).toArray = ls at hl ⊢
  have hl : lv_has ls 4 [(0, .ref (a 0)), (1, .int x), (2, .ref o)] := hl
  have htab := vx_table (x := yL_back) B (hts (.codeWith yL_back cL_back 4 (some .int) [(0, 9, 12, 23), (0, 9, 15, 15)]) List.mem_cons_self)
  have hK3 : va_K (dC, dI) vwCl (zq_T cI cZ cD) s := hK.sub [0, 1, 2] rfl
  refine lv_aload_n hx hb dL_back_0 rfl (lv_at hl 2 rfl) ?_
  refine lv_iconst (v := 0) hx hb dL_back_1 (by decide) ?_
  refine lv_aload_n hx hb dL_back_2 rfl (lv_at hl 0 rfl) ?_
  refine lv_iload_n hx hb dL_back_3 rfl (lv_at hl 1 rfl) ?_
  refine zx_cVi (E := zx_I) (As := [.int x]) (rest := [.int 0, .ref o]) (wc := (wRo a cI cZ cD ki pl tu le ch ca (nI N) tk th hu od (nI M) ti be clk)) (wr := [(o, .inl (cJ, 1, .inr (.inl ou)))]) ⟨hx, hb, hml, hown, hts⟩ (c_X3_back_bad l hl0 dC dI a cI cZ cD ki pl tu le ch ca N tk th hu od M ti be clk hN hM x hx0 s.heap.size) (cwV 1 hts gL_back_X3_back rfl rfl rfl (by decide +kernel) ⟨(Nat.le_of_ble_eq_true rfl), (Nat.le_of_ble_eq_true rfl)⟩) hK3 hP hD hS hA hH hE [0, 1, 2, 3, 4, 5, 6, 7, 8, 9, 10, 11, 12, 13, 14] [15] [1, 2, 3, 4, 5, 6, 7, 8, 9, 10, 11, 12, 13, 14, 15, 0] rfl rfl rfl rfl (by decide) rfl rfl (ci := 3) rfl 0 rfl rfl hl.1 rfl (Nat.le_of_ble_eq_true rfl) dL_back_4 ⟨(Nat.le_of_ble_eq_true rfl), (Nat.le_of_ble_eq_true rfl)⟩ (fun H locs q9 ce hP hD hS hce hcv hcl => ?_)
  refine vx_catch (name := zx_I) hown [] ⟨0, 9, 12, 23⟩ [⟨0, 9, 15, 15⟩] htab (fun z hz => absurd hz List.not_mem_nil) (by decide) (by decide) (hts (.classLink RL 23 zx_I) (by decide +kernel)) (va_Nw.use rfl hE.1.1.1.2.2) hce hcv hcl ?_
  refine lv_astore_n (lv' := [(3, .ref q9), (0, .ref (a 0)), (1, .int x), (2, .ref o)]) hx hb dL_back_12 rfl hl (by decide) rfl (fun ls hl => ?_)
  refine lv_iconst (v := 1) hx hb dL_back_13 (by decide) ?_
  exact W.iret (v := 1) hx hb hr (zq_qi rfl hP hK hD hS) hS.2.2 dL_back_14

set_option maxHeartbeats 4000000 in
set_option maxRecDepth 100000 in
theorem c_L_back_off (l : Launch) (hl0 : l.stackTraces = false) (dC : Nat → ClassId) (dI : Nat → Nat → Nat) (a : Nat → Nat) (cI cZ cD : ClassId) (ki pl tu le : Nat → Int32) (ch ca : Nat → UInt64) (N : Nat) (tk th hu od : Nat → Int32) (M : Nat) (ti : Int32) (be : Nat → Int32) (clk : Int32) (hN : N ≤ 40) (hM : M ≤ 30) (mi : Nat) (hm : mi < M) (hla : th mi = -1) (cJ : ClassId) (o : Nat) (ou : Nat → Int64) (sz : Nat) : zl_M l yL_back wsL_back ({ frames := 7, cells := 1, slots := 6, locals := 113 } : Room) (dC, dI) (zq_T4 cI cZ cD cJ) [.ref (a 0), .int (nI mi), .ref o] (wRl a cI cZ cD cJ o ki pl tu le ch ca (nI N) tk th hu od (nI M) ti be clk ou) 2 sz := by
  refine va_MetW (cc := cL_back) (maxL := 4) (ret := (some .int)) (by decide) rfl ?_
  intro p e s m args below meth c s₁ B hml hv
  obtain ⟨rfl, ⟨hsz, hP, hK, hD0⟩, hH, hE⟩ := hv
  have hx := B.exec
  have hb := B.bytes
  have hr := B.returns
  have hts := atoms_spec (ws := wsL_back) B.pre
  have hown : s.vm.findClass RL = some m.cls := findClass_of_methodNamed B.named
  have hlocks := B.notSynchronized
  subst hsz
  have hD := hD0.self (sz := s.heap.size)
  generalize hAe : va_A (wRl a cI cZ cD cJ o ki pl tu le ch ca (nI N) tk th hu od (nI M) ti be clk ou) s.heap.size = A at hD hH ⊢
  have hA : ∀ q : Nat, s.heap.size ≤ q → A q := fun q h => by rw [← hAe]; exact Or.inr h
  have hS : va_S A s.heap s.heap [] := va_S.rf
  have hP : va_P (dC, dI) vwCl (wRl a cI cZ cD cJ o ki pl tu le ch ca (nI N) tk th hu od (nI M) ti be clk ou) s.heap := hP
  have hl := lv_entry ([.ref (a 0), .int (nI mi), .ref o]) (n := 4) (Nat.le_of_ble_eq_true rfl)
  rw [lg_entry_eq]
  generalize (lg_sl ([.ref (a 0), .int (nI mi), .ref o]) ++ List.replicate (4 - (lg_sl ([.ref (a 0), .int (nI mi), .ref o])).length) Slot.unset).toArray = ls at hl ⊢
  have hl : lv_has ls 4 [(0, .ref (a 0)), (1, .int (nI mi)), (2, .ref o)] := hl
  have htab := vx_table (x := yL_back) B (hts (.codeWith yL_back cL_back 4 (some .int) [(0, 9, 12, 23), (0, 9, 15, 15)]) List.mem_cons_self)
  have hK3 : va_K (dC, dI) vwCl (zq_T cI cZ cD) s := hK.sub [0, 1, 2] rfl
  refine lv_aload_n hx hb dL_back_0 rfl (lv_at hl 2 rfl) ?_
  refine lv_iconst (v := 0) hx hb dL_back_1 (by decide) ?_
  refine lv_aload_n hx hb dL_back_2 rfl (lv_at hl 0 rfl) ?_
  refine lv_iload_n hx hb dL_back_3 rfl (lv_at hl 1 rfl) ?_
  refine zx_cVi (E := zx_S) (As := [.int (nI mi)]) (rest := [.int 0, .ref o]) (wc := (wRo a cI cZ cD ki pl tu le ch ca (nI N) tk th hu od (nI M) ti be clk)) (wr := [(o, .inl (cJ, 1, .inr (.inl ou)))]) ⟨hx, hb, hml, hown, hts⟩ (c_X3_back_off l hl0 dC dI a cI cZ cD ki pl tu le ch ca N tk th hu od M ti be clk hN hM mi hm hla s.heap.size) (cwV 1 hts gL_back_X3_back rfl rfl rfl (by decide +kernel) ⟨(Nat.le_of_ble_eq_true rfl), (Nat.le_of_ble_eq_true rfl)⟩) hK3 hP hD hS hA hH hE [0, 1, 2, 3, 4, 5, 6, 7, 8, 9, 10, 11, 12, 13, 14] [15] [1, 2, 3, 4, 5, 6, 7, 8, 9, 10, 11, 12, 13, 14, 15, 0] rfl rfl rfl rfl (by decide) rfl rfl (ci := 3) rfl 0 rfl rfl hl.1 rfl (Nat.le_of_ble_eq_true rfl) dL_back_4 ⟨(Nat.le_of_ble_eq_true rfl), (Nat.le_of_ble_eq_true rfl)⟩ (fun H locs q9 ce hP hD hS hce hcv hcl => ?_)
  refine vx_catch (name := zx_S) hown [⟨0, 9, 12, 23⟩] ⟨0, 9, 15, 15⟩ [] htab (fun z hz => by rw [List.mem_singleton.mp hz]; exact Or.inr ⟨by decide, zx_I, hts (.classLink RL 23 zx_I) (by decide +kernel), hE.1.1.2.2⟩) (by decide) (by decide) (hts (.classLink RL 15 zx_S) (by decide +kernel)) (va_Nw.use rfl hE.1.1.1.2.1) hce hcv hcl ?_
  refine lv_astore_n (lv' := [(3, .ref q9), (0, .ref (a 0)), (1, .int (nI mi)), (2, .ref o)]) hx hb dL_back_15 rfl hl (by decide) rfl (fun ls hl => ?_)
  refine lv_iconst (v := 2) hx hb dL_back_16 (by decide) ?_
  exact W.iret (v := 2) hx hb hr (zq_qi rfl hP hK hD hS) hS.2.2 dL_back_17

set_option maxHeartbeats 4000000 in
set_option maxRecDepth 100000 in
theorem c_L_test_bad (l : Launch) (hl0 : l.stackTraces = false) (dC : Nat → ClassId) (dI : Nat → Nat → Nat) (a : Nat → Nat) (cI cZ cD : ClassId) (ki pl tu le : Nat → Int32) (ch ca : Nat → UInt64) (N : Nat) (tk th hu od : Nat → Int32) (M : Nat) (ti : Int32) (be : Nat → Int32) (clk : Int32) (hN : N ≤ 40) (hM : M ≤ 30) (x : Int32) (hx0 : in_b x 0 (nI N - 1) = false) (cJ : ClassId) (o : Nat) (ou : Nat → Int64) (sz : Nat) : zl_M l yL_test wsL_test ({ frames := 8, cells := 1, slots := 6, locals := 133 } : Room) (dC, dI) (zq_T4 cI cZ cD cJ) [.ref (a 0), .int x, .ref o] (wRl a cI cZ cD cJ o ki pl tu le ch ca (nI N) tk th hu od (nI M) ti be clk ou) 1 sz := by
  refine va_MetW (cc := cL_test) (maxL := 4) (ret := (some .int)) (by decide) rfl ?_
  intro p e s m args below meth c s₁ B hml hv
  obtain ⟨rfl, ⟨hsz, hP, hK, hD0⟩, hH, hE⟩ := hv
  have hx := B.exec
  have hb := B.bytes
  have hr := B.returns
  have hts := atoms_spec (ws := wsL_test) B.pre
  have hown : s.vm.findClass RL = some m.cls := findClass_of_methodNamed B.named
  have hlocks := B.notSynchronized
  subst hsz
  have hD := hD0.self (sz := s.heap.size)
  generalize hAe : va_A (wRl a cI cZ cD cJ o ki pl tu le ch ca (nI N) tk th hu od (nI M) ti be clk ou) s.heap.size = A at hD hH ⊢
  have hA : ∀ q : Nat, s.heap.size ≤ q → A q := fun q h => by rw [← hAe]; exact Or.inr h
  have hS : va_S A s.heap s.heap [] := va_S.rf
  have hP : va_P (dC, dI) vwCl (wRl a cI cZ cD cJ o ki pl tu le ch ca (nI N) tk th hu od (nI M) ti be clk ou) s.heap := hP
  have hl := lv_entry ([.ref (a 0), .int x, .ref o]) (n := 4) (Nat.le_of_ble_eq_true rfl)
  rw [lg_entry_eq]
  generalize (lg_sl ([.ref (a 0), .int x, .ref o]) ++ List.replicate (4 - (lg_sl ([.ref (a 0), .int x, .ref o])).length) Slot.unset).toArray = ls at hl ⊢
  have hl : lv_has ls 4 [(0, .ref (a 0)), (1, .int x), (2, .ref o)] := hl
  have htab := vx_table (x := yL_test) B (hts (.codeWith yL_test cL_test 4 (some .int) [(0, 9, 12, 23), (0, 9, 15, 15)]) List.mem_cons_self)
  have hK3 : va_K (dC, dI) vwCl (zq_T cI cZ cD) s := hK.sub [0, 1, 2] rfl
  refine lv_aload_n hx hb dL_test_0 rfl (lv_at hl 2 rfl) ?_
  refine lv_iconst (v := 0) hx hb dL_test_1 (by decide) ?_
  refine lv_aload_n hx hb dL_test_2 rfl (lv_at hl 0 rfl) ?_
  refine lv_iload_n hx hb dL_test_3 rfl (lv_at hl 1 rfl) ?_
  refine zx_cVi (E := zx_I) (As := [.int x]) (rest := [.int 0, .ref o]) (wc := (wRo a cI cZ cD ki pl tu le ch ca (nI N) tk th hu od (nI M) ti be clk)) (wr := [(o, .inl (cJ, 1, .inr (.inl ou)))]) ⟨hx, hb, hml, hown, hts⟩ (c_X3_test_bad l hl0 dC dI a cI cZ cD ki pl tu le ch ca N tk th hu od M ti be clk hN hM x hx0 s.heap.size) (cwV 1 hts gL_test_X3_test rfl rfl rfl (by decide +kernel) ⟨(Nat.le_of_ble_eq_true rfl), (Nat.le_of_ble_eq_true rfl)⟩) hK3 hP hD hS hA hH hE [0, 1, 2, 3, 4, 5, 6, 7, 8, 9, 10, 11, 12, 13, 14] [15] [1, 2, 3, 4, 5, 6, 7, 8, 9, 10, 11, 12, 13, 14, 15, 0] rfl rfl rfl rfl (by decide) rfl rfl (ci := 3) rfl 0 rfl rfl hl.1 rfl (Nat.le_of_ble_eq_true rfl) dL_test_4 ⟨(Nat.le_of_ble_eq_true rfl), (Nat.le_of_ble_eq_true rfl)⟩ (fun H locs q9 ce hP hD hS hce hcv hcl => ?_)
  refine vx_catch (name := zx_I) hown [] ⟨0, 9, 12, 23⟩ [⟨0, 9, 15, 15⟩] htab (fun z hz => absurd hz List.not_mem_nil) (by decide) (by decide) (hts (.classLink RL 23 zx_I) (by decide +kernel)) (va_Nw.use rfl hE.1.1.1.2.2) hce hcv hcl ?_
  refine lv_astore_n (lv' := [(3, .ref q9), (0, .ref (a 0)), (1, .int x), (2, .ref o)]) hx hb dL_test_12 rfl hl (by decide) rfl (fun ls hl => ?_)
  refine lv_iconst (v := 1) hx hb dL_test_13 (by decide) ?_
  exact W.iret (v := 1) hx hb hr (zq_qi rfl hP hK hD hS) hS.2.2 dL_test_14

set_option maxHeartbeats 4000000 in
set_option maxRecDepth 100000 in
theorem c_L_test_off (l : Launch) (hl0 : l.stackTraces = false) (dC : Nat → ClassId) (dI : Nat → Nat → Nat) (a : Nat → Nat) (cI cZ cD : ClassId) (ki pl tu le : Nat → Int32) (ch ca : Nat → UInt64) (N : Nat) (tk th hu od : Nat → Int32) (M : Nat) (ti : Int32) (be : Nat → Int32) (clk : Int32) (hN : N ≤ 40) (hM : M ≤ 30) (j : Nat) (hj : j < N) (hpl : ¬ pl j = 0) (cJ : ClassId) (o : Nat) (ou : Nat → Int64) (sz : Nat) : zl_M l yL_test wsL_test ({ frames := 7, cells := 1, slots := 6, locals := 112 } : Room) (dC, dI) (zq_T4 cI cZ cD cJ) [.ref (a 0), .int (nI j), .ref o] (wRl a cI cZ cD cJ o ki pl tu le ch ca (nI N) tk th hu od (nI M) ti be clk ou) 2 sz := by
  refine va_MetW (cc := cL_test) (maxL := 4) (ret := (some .int)) (by decide) rfl ?_
  intro p e s m args below meth c s₁ B hml hv
  obtain ⟨rfl, ⟨hsz, hP, hK, hD0⟩, hH, hE⟩ := hv
  have hx := B.exec
  have hb := B.bytes
  have hr := B.returns
  have hts := atoms_spec (ws := wsL_test) B.pre
  have hown : s.vm.findClass RL = some m.cls := findClass_of_methodNamed B.named
  have hlocks := B.notSynchronized
  subst hsz
  have hD := hD0.self (sz := s.heap.size)
  generalize hAe : va_A (wRl a cI cZ cD cJ o ki pl tu le ch ca (nI N) tk th hu od (nI M) ti be clk ou) s.heap.size = A at hD hH ⊢
  have hA : ∀ q : Nat, s.heap.size ≤ q → A q := fun q h => by rw [← hAe]; exact Or.inr h
  have hS : va_S A s.heap s.heap [] := va_S.rf
  have hP : va_P (dC, dI) vwCl (wRl a cI cZ cD cJ o ki pl tu le ch ca (nI N) tk th hu od (nI M) ti be clk ou) s.heap := hP
  have hl := lv_entry ([.ref (a 0), .int (nI j), .ref o]) (n := 4) (Nat.le_of_ble_eq_true rfl)
  rw [lg_entry_eq]
  generalize (lg_sl ([.ref (a 0), .int (nI j), .ref o]) ++ List.replicate (4 - (lg_sl ([.ref (a 0), .int (nI j), .ref o])).length) Slot.unset).toArray = ls at hl ⊢
  have hl : lv_has ls 4 [(0, .ref (a 0)), (1, .int (nI j)), (2, .ref o)] := hl
  have htab := vx_table (x := yL_test) B (hts (.codeWith yL_test cL_test 4 (some .int) [(0, 9, 12, 23), (0, 9, 15, 15)]) List.mem_cons_self)
  have hK3 : va_K (dC, dI) vwCl (zq_T cI cZ cD) s := hK.sub [0, 1, 2] rfl
  refine lv_aload_n hx hb dL_test_0 rfl (lv_at hl 2 rfl) ?_
  refine lv_iconst (v := 0) hx hb dL_test_1 (by decide) ?_
  refine lv_aload_n hx hb dL_test_2 rfl (lv_at hl 0 rfl) ?_
  refine lv_iload_n hx hb dL_test_3 rfl (lv_at hl 1 rfl) ?_
  refine zx_cVi (E := zx_S) (As := [.int (nI j)]) (rest := [.int 0, .ref o]) (wc := (wRo a cI cZ cD ki pl tu le ch ca (nI N) tk th hu od (nI M) ti be clk)) (wr := [(o, .inl (cJ, 1, .inr (.inl ou)))]) ⟨hx, hb, hml, hown, hts⟩ (c_X3_test_off l hl0 dC dI a cI cZ cD ki pl tu le ch ca N tk th hu od M ti be clk hN hM j hj hpl s.heap.size) (cwV 1 hts gL_test_X3_test rfl rfl rfl (by decide +kernel) ⟨(Nat.le_of_ble_eq_true rfl), (Nat.le_of_ble_eq_true rfl)⟩) hK3 hP hD hS hA hH hE [0, 1, 2, 3, 4, 5, 6, 7, 8, 9, 10, 11, 12, 13, 14] [15] [1, 2, 3, 4, 5, 6, 7, 8, 9, 10, 11, 12, 13, 14, 15, 0] rfl rfl rfl rfl (by decide) rfl rfl (ci := 3) rfl 0 rfl rfl hl.1 rfl (Nat.le_of_ble_eq_true rfl) dL_test_4 ⟨(Nat.le_of_ble_eq_true rfl), (Nat.le_of_ble_eq_true rfl)⟩ (fun H locs q9 ce hP hD hS hce hcv hcl => ?_)
  refine vx_catch (name := zx_S) hown [⟨0, 9, 12, 23⟩] ⟨0, 9, 15, 15⟩ [] htab (fun z hz => by rw [List.mem_singleton.mp hz]; exact Or.inr ⟨by decide, zx_I, hts (.classLink RL 23 zx_I) (by decide +kernel), hE.1.1.2.2⟩) (by decide) (by decide) (hts (.classLink RL 15 zx_S) (by decide +kernel)) (va_Nw.use rfl hE.1.1.1.2.1) hce hcv hcl ?_
  refine lv_astore_n (lv' := [(3, .ref q9), (0, .ref (a 0)), (1, .int (nI j)), (2, .ref o)]) hx hb dL_test_15 rfl hl (by decide) rfl (fun ls hl => ?_)
  refine lv_iconst (v := 2) hx hb dL_test_16 (by decide) ?_
  exact W.iret (v := 2) hx hb hr (zq_qi rfl hP hK hD hS) hS.2.2 dL_test_17

set_option maxHeartbeats 4000000 in
set_option maxRecDepth 100000 in
theorem c_L_mend_bad (l : Launch) (hl0 : l.stackTraces = false) (dC : Nat → ClassId) (dI : Nat → Nat → Nat) (a : Nat → Nat) (cI cZ cD : ClassId) (ki pl tu le : Nat → Int32) (ch ca : Nat → UInt64) (N : Nat) (tk th hu od : Nat → Int32) (M : Nat) (ti : Int32) (be : Nat → Int32) (clk : Int32) (hN : N ≤ 40) (hM : M ≤ 30) (x : Int32) (hx0 : in_b x 0 (nI N - 1) = false) (cJ : ClassId) (o : Nat) (ou : Nat → Int64) (sz : Nat) : zl_M l yL_mend wsL_mend ({ frames := 8, cells := 1, slots := 6, locals := 133 } : Room) (dC, dI) (zq_T4 cI cZ cD cJ) [.ref (a 0), .int x, .ref o] (wRl a cI cZ cD cJ o ki pl tu le ch ca (nI N) tk th hu od (nI M) ti be clk ou) 1 sz := by
  refine va_MetW (cc := cL_mend) (maxL := 4) (ret := (some .int)) (by decide) rfl ?_
  intro p e s m args below meth c s₁ B hml hv
  obtain ⟨rfl, ⟨hsz, hP, hK, hD0⟩, hH, hE⟩ := hv
  have hx := B.exec
  have hb := B.bytes
  have hr := B.returns
  have hts := atoms_spec (ws := wsL_mend) B.pre
  have hown : s.vm.findClass RL = some m.cls := findClass_of_methodNamed B.named
  have hlocks := B.notSynchronized
  subst hsz
  have hD := hD0.self (sz := s.heap.size)
  generalize hAe : va_A (wRl a cI cZ cD cJ o ki pl tu le ch ca (nI N) tk th hu od (nI M) ti be clk ou) s.heap.size = A at hD hH ⊢
  have hA : ∀ q : Nat, s.heap.size ≤ q → A q := fun q h => by rw [← hAe]; exact Or.inr h
  have hS : va_S A s.heap s.heap [] := va_S.rf
  have hP : va_P (dC, dI) vwCl (wRl a cI cZ cD cJ o ki pl tu le ch ca (nI N) tk th hu od (nI M) ti be clk ou) s.heap := hP
  have hl := lv_entry ([.ref (a 0), .int x, .ref o]) (n := 4) (Nat.le_of_ble_eq_true rfl)
  rw [lg_entry_eq]
  generalize (lg_sl ([.ref (a 0), .int x, .ref o]) ++ List.replicate (4 - (lg_sl ([.ref (a 0), .int x, .ref o])).length) Slot.unset).toArray = ls at hl ⊢
  have hl : lv_has ls 4 [(0, .ref (a 0)), (1, .int x), (2, .ref o)] := hl
  have htab := vx_table (x := yL_mend) B (hts (.codeWith yL_mend cL_mend 4 (some .int) [(0, 16, 19, 23), (0, 16, 22, 15)]) List.mem_cons_self)
  have hK3 : va_K (dC, dI) vwCl (zq_T cI cZ cD) s := hK.sub [0, 1, 2] rfl
  refine lv_aload_n hx hb dL_mend_0 rfl (lv_at hl 2 rfl) ?_
  refine lv_iconst (v := 0) hx hb dL_mend_1 (by decide) ?_
  refine lv_aload_n hx hb dL_mend_2 rfl (lv_at hl 0 rfl) ?_
  refine lv_iload_n hx hb dL_mend_3 rfl (lv_at hl 1 rfl) ?_
  refine zx_cVi (E := zx_I) (As := [.int x]) (rest := [.int 0, .ref o]) (wc := (wRo a cI cZ cD ki pl tu le ch ca (nI N) tk th hu od (nI M) ti be clk)) (wr := [(o, .inl (cJ, 1, .inr (.inl ou)))]) ⟨hx, hb, hml, hown, hts⟩ (c_X3_mend_bad l hl0 dC dI a cI cZ cD ki pl tu le ch ca N tk th hu od M ti be clk hN hM x hx0 s.heap.size) (cwV 1 hts gL_mend_X3_mend rfl rfl rfl (by decide +kernel) ⟨(Nat.le_of_ble_eq_true rfl), (Nat.le_of_ble_eq_true rfl)⟩) hK3 hP hD hS hA hH hE [0, 1, 2, 3, 4, 5, 6, 7, 8, 9, 10, 11, 12, 13, 14] [15] [1, 2, 3, 4, 5, 6, 7, 8, 9, 10, 11, 12, 13, 14, 15, 0] rfl rfl rfl rfl (by decide) rfl rfl (ci := 3) rfl 0 rfl rfl hl.1 rfl (Nat.le_of_ble_eq_true rfl) dL_mend_4 ⟨(Nat.le_of_ble_eq_true rfl), (Nat.le_of_ble_eq_true rfl)⟩ (fun H locs q9 ce hP hD hS hce hcv hcl => ?_)
  refine vx_catch (name := zx_I) hown [] ⟨0, 16, 19, 23⟩ [⟨0, 16, 22, 15⟩] htab (fun z hz => absurd hz List.not_mem_nil) (by decide) (by decide) (hts (.classLink RL 23 zx_I) (by decide +kernel)) (va_Nw.use rfl hE.1.1.1.2.2) hce hcv hcl ?_
  refine lv_astore_n (lv' := [(3, .ref q9), (0, .ref (a 0)), (1, .int x), (2, .ref o)]) hx hb dL_mend_19 rfl hl (by decide) rfl (fun ls hl => ?_)
  refine lv_iconst (v := 1) hx hb dL_mend_20 (by decide) ?_
  exact W.iret (v := 1) hx hb hr (zq_qi rfl hP hK hD hS) hS.2.2 dL_mend_21

set_option maxHeartbeats 4000000 in
set_option maxRecDepth 100000 in
theorem c_L_mend_off (l : Launch) (hl0 : l.stackTraces = false) (dC : Nat → ClassId) (dI : Nat → Nat → Nat) (a : Nat → Nat) (cI cZ cD : ClassId) (ki pl tu le : Nat → Int32) (ch ca : Nat → UInt64) (N : Nat) (tk th hu od : Nat → Int32) (M : Nat) (ti : Int32) (be : Nat → Int32) (clk : Int32) (hN : N ≤ 40) (hM : M ≤ 30) (j : Nat) (hj : j < N) (hpl : ¬ pl j = 2) (cJ : ClassId) (o : Nat) (ou : Nat → Int64) (sz : Nat) : zl_M l yL_mend wsL_mend ({ frames := 7, cells := 1, slots := 6, locals := 112 } : Room) (dC, dI) (zq_T4 cI cZ cD cJ) [.ref (a 0), .int (nI j), .ref o] (wRl a cI cZ cD cJ o ki pl tu le ch ca (nI N) tk th hu od (nI M) ti be clk ou) 2 sz := by
  refine va_MetW (cc := cL_mend) (maxL := 4) (ret := (some .int)) (by decide) rfl ?_
  intro p e s m args below meth c s₁ B hml hv
  obtain ⟨rfl, ⟨hsz, hP, hK, hD0⟩, hH, hE⟩ := hv
  have hx := B.exec
  have hb := B.bytes
  have hr := B.returns
  have hts := atoms_spec (ws := wsL_mend) B.pre
  have hown : s.vm.findClass RL = some m.cls := findClass_of_methodNamed B.named
  have hlocks := B.notSynchronized
  subst hsz
  have hD := hD0.self (sz := s.heap.size)
  generalize hAe : va_A (wRl a cI cZ cD cJ o ki pl tu le ch ca (nI N) tk th hu od (nI M) ti be clk ou) s.heap.size = A at hD hH ⊢
  have hA : ∀ q : Nat, s.heap.size ≤ q → A q := fun q h => by rw [← hAe]; exact Or.inr h
  have hS : va_S A s.heap s.heap [] := va_S.rf
  have hP : va_P (dC, dI) vwCl (wRl a cI cZ cD cJ o ki pl tu le ch ca (nI N) tk th hu od (nI M) ti be clk ou) s.heap := hP
  have hl := lv_entry ([.ref (a 0), .int (nI j), .ref o]) (n := 4) (Nat.le_of_ble_eq_true rfl)
  rw [lg_entry_eq]
  generalize (lg_sl ([.ref (a 0), .int (nI j), .ref o]) ++ List.replicate (4 - (lg_sl ([.ref (a 0), .int (nI j), .ref o])).length) Slot.unset).toArray = ls at hl ⊢
  have hl : lv_has ls 4 [(0, .ref (a 0)), (1, .int (nI j)), (2, .ref o)] := hl
  have htab := vx_table (x := yL_mend) B (hts (.codeWith yL_mend cL_mend 4 (some .int) [(0, 16, 19, 23), (0, 16, 22, 15)]) List.mem_cons_self)
  have hK3 : va_K (dC, dI) vwCl (zq_T cI cZ cD) s := hK.sub [0, 1, 2] rfl
  refine lv_aload_n hx hb dL_mend_0 rfl (lv_at hl 2 rfl) ?_
  refine lv_iconst (v := 0) hx hb dL_mend_1 (by decide) ?_
  refine lv_aload_n hx hb dL_mend_2 rfl (lv_at hl 0 rfl) ?_
  refine lv_iload_n hx hb dL_mend_3 rfl (lv_at hl 1 rfl) ?_
  refine zx_cVi (E := zx_S) (As := [.int (nI j)]) (rest := [.int 0, .ref o]) (wc := (wRo a cI cZ cD ki pl tu le ch ca (nI N) tk th hu od (nI M) ti be clk)) (wr := [(o, .inl (cJ, 1, .inr (.inl ou)))]) ⟨hx, hb, hml, hown, hts⟩ (c_X3_mend_off l hl0 dC dI a cI cZ cD ki pl tu le ch ca N tk th hu od M ti be clk hN hM j hj hpl s.heap.size) (cwV 1 hts gL_mend_X3_mend rfl rfl rfl (by decide +kernel) ⟨(Nat.le_of_ble_eq_true rfl), (Nat.le_of_ble_eq_true rfl)⟩) hK3 hP hD hS hA hH hE [0, 1, 2, 3, 4, 5, 6, 7, 8, 9, 10, 11, 12, 13, 14] [15] [1, 2, 3, 4, 5, 6, 7, 8, 9, 10, 11, 12, 13, 14, 15, 0] rfl rfl rfl rfl (by decide) rfl rfl (ci := 3) rfl 0 rfl rfl hl.1 rfl (Nat.le_of_ble_eq_true rfl) dL_mend_4 ⟨(Nat.le_of_ble_eq_true rfl), (Nat.le_of_ble_eq_true rfl)⟩ (fun H locs q9 ce hP hD hS hce hcv hcl => ?_)
  refine vx_catch (name := zx_S) hown [⟨0, 16, 19, 23⟩] ⟨0, 16, 22, 15⟩ [] htab (fun z hz => by rw [List.mem_singleton.mp hz]; exact Or.inr ⟨by decide, zx_I, hts (.classLink RL 23 zx_I) (by decide +kernel), hE.1.1.2.2⟩) (by decide) (by decide) (hts (.classLink RL 15 zx_S) (by decide +kernel)) (va_Nw.use rfl hE.1.1.1.2.1) hce hcv hcl ?_
  refine lv_astore_n (lv' := [(3, .ref q9), (0, .ref (a 0)), (1, .int (nI j)), (2, .ref o)]) hx hb dL_mend_22 rfl hl (by decide) rfl (fun ls hl => ?_)
  refine lv_iconst (v := 2) hx hb dL_mend_23 (by decide) ?_
  exact W.iret (v := 2) hx hb hr (zq_qi rfl hP hK hD hS) hS.2.2 dL_mend_24

set_option maxHeartbeats 4000000 in
set_option maxRecDepth 100000 in
theorem c_L_hours_bad (l : Launch) (hl0 : l.stackTraces = false) (dC : Nat → ClassId) (dI : Nat → Nat → Nat) (a : Nat → Nat) (cI cZ cD : ClassId) (ki pl tu le : Nat → Int32) (ch ca : Nat → UInt64) (N : Nat) (tk th hu od : Nat → Int32) (M : Nat) (ti : Int32) (be : Nat → Int32) (clk : Int32) (hN : N ≤ 40) (hM : M ≤ 30) (x : Int32) (hx0 : in_b x 1 100 = false) (cJ : ClassId) (o : Nat) (ou : Nat → Int64) (sz : Nat) : zl_M l yL_hours wsL_hours ({ frames := 7, cells := 1, slots := 6, locals := 113 } : Room) (dC, dI) (zq_T4 cI cZ cD cJ) [.ref (a 0), .int x, .ref o] (wRl a cI cZ cD cJ o ki pl tu le ch ca (nI N) tk th hu od (nI M) ti be clk ou) 1 sz := by
  refine va_MetW (cc := cL_hours) (maxL := 4) (ret := (some .int)) (by decide) rfl ?_
  intro p e s m args below meth c s₁ B hml hv
  obtain ⟨rfl, ⟨hsz, hP, hK, hD0⟩, hH, hE⟩ := hv
  have hx := B.exec
  have hb := B.bytes
  have hr := B.returns
  have hts := atoms_spec (ws := wsL_hours) B.pre
  have hown : s.vm.findClass RL = some m.cls := findClass_of_methodNamed B.named
  have hlocks := B.notSynchronized
  subst hsz
  have hD := hD0.self (sz := s.heap.size)
  generalize hAe : va_A (wRl a cI cZ cD cJ o ki pl tu le ch ca (nI N) tk th hu od (nI M) ti be clk ou) s.heap.size = A at hD hH ⊢
  have hA : ∀ q : Nat, s.heap.size ≤ q → A q := fun q h => by rw [← hAe]; exact Or.inr h
  have hS : va_S A s.heap s.heap [] := va_S.rf
  have hP : va_P (dC, dI) vwCl (wRl a cI cZ cD cJ o ki pl tu le ch ca (nI N) tk th hu od (nI M) ti be clk ou) s.heap := hP
  have hl := lv_entry ([.ref (a 0), .int x, .ref o]) (n := 4) (Nat.le_of_ble_eq_true rfl)
  rw [lg_entry_eq]
  generalize (lg_sl ([.ref (a 0), .int x, .ref o]) ++ List.replicate (4 - (lg_sl ([.ref (a 0), .int x, .ref o])).length) Slot.unset).toArray = ls at hl ⊢
  have hl : lv_has ls 4 [(0, .ref (a 0)), (1, .int x), (2, .ref o)] := hl
  have htab := vx_table (x := yL_hours) B (hts (.codeWith yL_hours cL_hours 4 (some .int) [(0, 9, 12, 13)]) List.mem_cons_self)
  have hK3 : va_K (dC, dI) vwCl (zq_T cI cZ cD) s := hK.sub [0, 1, 2] rfl
  refine lv_aload_n hx hb dL_hours_0 rfl (lv_at hl 2 rfl) ?_
  refine lv_iconst (v := 0) hx hb dL_hours_1 (by decide) ?_
  refine lv_aload_n hx hb dL_hours_2 rfl (lv_at hl 0 rfl) ?_
  refine lv_iload_n hx hb dL_hours_3 rfl (lv_at hl 1 rfl) ?_
  refine zx_cVi (E := zx_A) (As := [.int x]) (rest := [.int 0, .ref o]) (wc := (wRo a cI cZ cD ki pl tu le ch ca (nI N) tk th hu od (nI M) ti be clk)) (wr := [(o, .inl (cJ, 1, .inr (.inl ou)))]) ⟨hx, hb, hml, hown, hts⟩ (c_X3_hours_bad l hl0 dC dI a cI cZ cD ki pl tu le ch ca N tk th hu od M ti be clk hN hM x hx0 s.heap.size) (cwV 1 hts gL_hours_X3_hours rfl rfl rfl (by decide +kernel) ⟨(Nat.le_of_ble_eq_true rfl), (Nat.le_of_ble_eq_true rfl)⟩) hK3 hP hD hS hA hH hE [0, 1, 2, 3, 4, 5, 6, 7, 8, 9, 10, 11, 12, 13, 14] [15] [1, 2, 3, 4, 5, 6, 7, 8, 9, 10, 11, 12, 13, 14, 15, 0] rfl rfl rfl rfl (by decide) rfl rfl (ci := 3) rfl 0 rfl rfl hl.1 rfl (Nat.le_of_ble_eq_true rfl) dL_hours_4 ⟨(Nat.le_of_ble_eq_true rfl), (Nat.le_of_ble_eq_true rfl)⟩ (fun H locs q9 ce hP hD hS hce hcv hcl => ?_)
  refine vx_catch (name := zx_A) hown [] ⟨0, 9, 12, 13⟩ [] htab (fun z hz => absurd hz List.not_mem_nil) (by decide) (by decide) (hts (.classLink RL 13 zx_A) (by decide +kernel)) (va_Nw.use rfl hE.1.1.1.1) hce hcv hcl ?_
  refine lv_astore_n (lv' := [(3, .ref q9), (0, .ref (a 0)), (1, .int x), (2, .ref o)]) hx hb dL_hours_12 rfl hl (by decide) rfl (fun ls hl => ?_)
  refine lv_iconst (v := 1) hx hb dL_hours_13 (by decide) ?_
  exact W.iret (v := 1) hx hb hr (zq_qi rfl hP hK hD hS) hS.2.2 dL_hours_14

set_option maxHeartbeats 4000000 in
set_option maxRecDepth 100000 in
theorem c_L_lampOf_bad (l : Launch) (hl0 : l.stackTraces = false) (dC : Nat → ClassId) (dI : Nat → Nat → Nat) (a : Nat → Nat) (cI cZ cD : ClassId) (ki pl tu le : Nat → Int32) (ch ca : Nat → UInt64) (N : Nat) (tk th hu od : Nat → Int32) (M : Nat) (ti : Int32) (be : Nat → Int32) (clk : Int32) (hN : N ≤ 40) (hM : M ≤ 30) (x : Int32) (hx0 : in_b x 0 (nI M - 1) = false) (cJ : ClassId) (o : Nat) (ou : Nat → Int64) (sz : Nat) : zl_M l yL_lampOf wsL_lampOf ({ frames := 8, cells := 1, slots := 6, locals := 132 } : Room) (dC, dI) (zq_T4 cI cZ cD cJ) [.ref (a 0), .int x, .ref o] (wRl a cI cZ cD cJ o ki pl tu le ch ca (nI N) tk th hu od (nI M) ti be clk ou) 1 sz := by
  refine va_MetW (cc := cL_lampOf) (maxL := 4) (ret := (some .int)) (by decide) rfl ?_
  intro p e s m args below meth c s₁ B hml hv
  obtain ⟨rfl, ⟨hsz, hP, hK, hD0⟩, hH, hE⟩ := hv
  have hx := B.exec
  have hb := B.bytes
  have hr := B.returns
  have hts := atoms_spec (ws := wsL_lampOf) B.pre
  have hown : s.vm.findClass RL = some m.cls := findClass_of_methodNamed B.named
  have hlocks := B.notSynchronized
  subst hsz
  have hD := hD0.self (sz := s.heap.size)
  generalize hAe : va_A (wRl a cI cZ cD cJ o ki pl tu le ch ca (nI N) tk th hu od (nI M) ti be clk ou) s.heap.size = A at hD hH ⊢
  have hA : ∀ q : Nat, s.heap.size ≤ q → A q := fun q h => by rw [← hAe]; exact Or.inr h
  have hS : va_S A s.heap s.heap [] := va_S.rf
  have hP : va_P (dC, dI) vwCl (wRl a cI cZ cD cJ o ki pl tu le ch ca (nI N) tk th hu od (nI M) ti be clk ou) s.heap := hP
  have hl := lv_entry ([.ref (a 0), .int x, .ref o]) (n := 4) (Nat.le_of_ble_eq_true rfl)
  rw [lg_entry_eq]
  generalize (lg_sl ([.ref (a 0), .int x, .ref o]) ++ List.replicate (4 - (lg_sl ([.ref (a 0), .int x, .ref o])).length) Slot.unset).toArray = ls at hl ⊢
  have hl : lv_has ls 4 [(0, .ref (a 0)), (1, .int x), (2, .ref o)] := hl
  have htab := vx_table (x := yL_lampOf) B (hts (.codeWith yL_lampOf cL_lampOf 4 (some .int) [(0, 9, 12, 23)]) List.mem_cons_self)
  have hK3 : va_K (dC, dI) vwCl (zq_T cI cZ cD) s := hK.sub [0, 1, 2] rfl
  refine lv_aload_n hx hb dL_lampOf_0 rfl (lv_at hl 2 rfl) ?_
  refine lv_iconst (v := 0) hx hb dL_lampOf_1 (by decide) ?_
  refine lv_aload_n hx hb dL_lampOf_2 rfl (lv_at hl 0 rfl) ?_
  refine lv_iload_n hx hb dL_lampOf_3 rfl (lv_at hl 1 rfl) ?_
  refine zx_cVi (E := zx_I) (As := [.int x]) (rest := [.int 0, .ref o]) (wc := (wRo a cI cZ cD ki pl tu le ch ca (nI N) tk th hu od (nI M) ti be clk)) (wr := [(o, .inl (cJ, 1, .inr (.inl ou)))]) ⟨hx, hb, hml, hown, hts⟩ (c_X3_lampOf_bad l hl0 dC dI a cI cZ cD ki pl tu le ch ca N tk th hu od M ti be clk hN hM x hx0 s.heap.size) (cwV 1 hts gL_lampOf_X3_lampOf rfl rfl rfl (by decide +kernel) ⟨(Nat.le_of_ble_eq_true rfl), (Nat.le_of_ble_eq_true rfl)⟩) hK3 hP hD hS hA hH hE [0, 1, 2, 3, 4, 5, 6, 7, 8, 9, 10, 11, 12, 13, 14] [15] [1, 2, 3, 4, 5, 6, 7, 8, 9, 10, 11, 12, 13, 14, 15, 0] rfl rfl rfl rfl (by decide) rfl rfl (ci := 3) rfl 0 rfl rfl hl.1 rfl (Nat.le_of_ble_eq_true rfl) dL_lampOf_4 ⟨(Nat.le_of_ble_eq_true rfl), (Nat.le_of_ble_eq_true rfl)⟩ (fun H locs q9 ce hP hD hS hce hcv hcl => ?_)
  refine vx_catch (name := zx_I) hown [] ⟨0, 9, 12, 23⟩ [] htab (fun z hz => absurd hz List.not_mem_nil) (by decide) (by decide) (hts (.classLink RL 23 zx_I) (by decide +kernel)) (va_Nw.use rfl hE.1.1.1.2.2) hce hcv hcl ?_
  refine lv_astore_n (lv' := [(3, .ref q9), (0, .ref (a 0)), (1, .int x), (2, .ref o)]) hx hb dL_lampOf_12 rfl hl (by decide) rfl (fun ls hl => ?_)
  refine lv_iconst (v := 1) hx hb dL_lampOf_13 (by decide) ?_
  exact W.iret (v := 1) hx hb hr (zq_qi rfl hP hK hD hS) hS.2.2 dL_lampOf_14

set_option maxHeartbeats 4000000 in
set_option maxRecDepth 100000 in
theorem c_L_hoursBelow_bad (l : Launch) (hl0 : l.stackTraces = false) (dC : Nat → ClassId) (dI : Nat → Nat → Nat) (a : Nat → Nat) (cI cZ cD : ClassId) (ki pl tu le : Nat → Int32) (ch ca : Nat → UInt64) (N : Nat) (tk th hu od : Nat → Int32) (M : Nat) (ti : Int32) (be : Nat → Int32) (clk : Int32) (hN : N ≤ 40) (hM : M ≤ 30) (x : Int32) (hx0 : in_b x 0 (nI M - 1) = false) (cJ : ClassId) (o : Nat) (ou : Nat → Int64) (sz : Nat) : zl_M l yL_hoursBelow wsL_hoursBelow ({ frames := 8, cells := 1, slots := 6, locals := 132 } : Room) (dC, dI) (zq_T4 cI cZ cD cJ) [.ref (a 0), .int x, .ref o] (wRl a cI cZ cD cJ o ki pl tu le ch ca (nI N) tk th hu od (nI M) ti be clk ou) 1 sz := by
  refine va_MetW (cc := cL_hoursBelow) (maxL := 4) (ret := (some .int)) (by decide) rfl ?_
  intro p e s m args below meth c s₁ B hml hv
  obtain ⟨rfl, ⟨hsz, hP, hK, hD0⟩, hH, hE⟩ := hv
  have hx := B.exec
  have hb := B.bytes
  have hr := B.returns
  have hts := atoms_spec (ws := wsL_hoursBelow) B.pre
  have hown : s.vm.findClass RL = some m.cls := findClass_of_methodNamed B.named
  have hlocks := B.notSynchronized
  subst hsz
  have hD := hD0.self (sz := s.heap.size)
  generalize hAe : va_A (wRl a cI cZ cD cJ o ki pl tu le ch ca (nI N) tk th hu od (nI M) ti be clk ou) s.heap.size = A at hD hH ⊢
  have hA : ∀ q : Nat, s.heap.size ≤ q → A q := fun q h => by rw [← hAe]; exact Or.inr h
  have hS : va_S A s.heap s.heap [] := va_S.rf
  have hP : va_P (dC, dI) vwCl (wRl a cI cZ cD cJ o ki pl tu le ch ca (nI N) tk th hu od (nI M) ti be clk ou) s.heap := hP
  have hl := lv_entry ([.ref (a 0), .int x, .ref o]) (n := 4) (Nat.le_of_ble_eq_true rfl)
  rw [lg_entry_eq]
  generalize (lg_sl ([.ref (a 0), .int x, .ref o]) ++ List.replicate (4 - (lg_sl ([.ref (a 0), .int x, .ref o])).length) Slot.unset).toArray = ls at hl ⊢
  have hl : lv_has ls 4 [(0, .ref (a 0)), (1, .int x), (2, .ref o)] := hl
  have htab := vx_table (x := yL_hoursBelow) B (hts (.codeWith yL_hoursBelow cL_hoursBelow 4 (some .int) [(0, 9, 12, 23)]) List.mem_cons_self)
  have hK3 : va_K (dC, dI) vwCl (zq_T cI cZ cD) s := hK.sub [0, 1, 2] rfl
  refine lv_aload_n hx hb dL_hoursBelow_0 rfl (lv_at hl 2 rfl) ?_
  refine lv_iconst (v := 0) hx hb dL_hoursBelow_1 (by decide) ?_
  refine lv_aload_n hx hb dL_hoursBelow_2 rfl (lv_at hl 0 rfl) ?_
  refine lv_iload_n hx hb dL_hoursBelow_3 rfl (lv_at hl 1 rfl) ?_
  refine zx_cVi (E := zx_I) (As := [.int x]) (rest := [.int 0, .ref o]) (wc := (wRo a cI cZ cD ki pl tu le ch ca (nI N) tk th hu od (nI M) ti be clk)) (wr := [(o, .inl (cJ, 1, .inr (.inl ou)))]) ⟨hx, hb, hml, hown, hts⟩ (c_X3_hoursBelow_bad l hl0 dC dI a cI cZ cD ki pl tu le ch ca N tk th hu od M ti be clk hN hM x hx0 s.heap.size) (cwV 1 hts gL_hoursBelow_X3_hoursBelow rfl rfl rfl (by decide +kernel) ⟨(Nat.le_of_ble_eq_true rfl), (Nat.le_of_ble_eq_true rfl)⟩) hK3 hP hD hS hA hH hE [0, 1, 2, 3, 4, 5, 6, 7, 8, 9, 10, 11, 12, 13, 14] [15] [1, 2, 3, 4, 5, 6, 7, 8, 9, 10, 11, 12, 13, 14, 15, 0] rfl rfl rfl rfl (by decide) rfl rfl (ci := 3) rfl 0 rfl rfl hl.1 rfl (Nat.le_of_ble_eq_true rfl) dL_hoursBelow_4 ⟨(Nat.le_of_ble_eq_true rfl), (Nat.le_of_ble_eq_true rfl)⟩ (fun H locs q9 ce hP hD hS hce hcv hcl => ?_)
  refine vx_catch (name := zx_I) hown [] ⟨0, 9, 12, 23⟩ [] htab (fun z hz => absurd hz List.not_mem_nil) (by decide) (by decide) (hts (.classLink RL 23 zx_I) (by decide +kernel)) (va_Nw.use rfl hE.1.1.1.2.2) hce hcv hcl ?_
  refine lv_astore_n (lv' := [(3, .ref q9), (0, .ref (a 0)), (1, .int x), (2, .ref o)]) hx hb dL_hoursBelow_12 rfl hl (by decide) rfl (fun ls hl => ?_)
  refine lv_iconst (v := 1) hx hb dL_hoursBelow_13 (by decide) ?_
  exact W.iret (v := 1) hx hb hr (zq_qi rfl hP hK hD hS) hS.2.2 dL_hoursBelow_14

set_option maxHeartbeats 4000000 in
set_option maxRecDepth 100000 in
theorem c_L_placeOf_bad (l : Launch) (hl0 : l.stackTraces = false) (dC : Nat → ClassId) (dI : Nat → Nat → Nat) (a : Nat → Nat) (cI cZ cD : ClassId) (ki pl tu le : Nat → Int32) (ch ca : Nat → UInt64) (N : Nat) (tk th hu od : Nat → Int32) (M : Nat) (ti : Int32) (be : Nat → Int32) (clk : Int32) (hN : N ≤ 40) (hM : M ≤ 30) (x : Int32) (hx0 : in_b x 0 (nI N - 1) = false) (cJ : ClassId) (o : Nat) (ou : Nat → Int64) (sz : Nat) : zl_M l yL_placeOf wsL_placeOf ({ frames := 8, cells := 1, slots := 6, locals := 132 } : Room) (dC, dI) (zq_T4 cI cZ cD cJ) [.ref (a 0), .int x, .ref o] (wRl a cI cZ cD cJ o ki pl tu le ch ca (nI N) tk th hu od (nI M) ti be clk ou) 1 sz := by
  refine va_MetW (cc := cL_placeOf) (maxL := 4) (ret := (some .int)) (by decide) rfl ?_
  intro p e s m args below meth c s₁ B hml hv
  obtain ⟨rfl, ⟨hsz, hP, hK, hD0⟩, hH, hE⟩ := hv
  have hx := B.exec
  have hb := B.bytes
  have hr := B.returns
  have hts := atoms_spec (ws := wsL_placeOf) B.pre
  have hown : s.vm.findClass RL = some m.cls := findClass_of_methodNamed B.named
  have hlocks := B.notSynchronized
  subst hsz
  have hD := hD0.self (sz := s.heap.size)
  generalize hAe : va_A (wRl a cI cZ cD cJ o ki pl tu le ch ca (nI N) tk th hu od (nI M) ti be clk ou) s.heap.size = A at hD hH ⊢
  have hA : ∀ q : Nat, s.heap.size ≤ q → A q := fun q h => by rw [← hAe]; exact Or.inr h
  have hS : va_S A s.heap s.heap [] := va_S.rf
  have hP : va_P (dC, dI) vwCl (wRl a cI cZ cD cJ o ki pl tu le ch ca (nI N) tk th hu od (nI M) ti be clk ou) s.heap := hP
  have hl := lv_entry ([.ref (a 0), .int x, .ref o]) (n := 4) (Nat.le_of_ble_eq_true rfl)
  rw [lg_entry_eq]
  generalize (lg_sl ([.ref (a 0), .int x, .ref o]) ++ List.replicate (4 - (lg_sl ([.ref (a 0), .int x, .ref o])).length) Slot.unset).toArray = ls at hl ⊢
  have hl : lv_has ls 4 [(0, .ref (a 0)), (1, .int x), (2, .ref o)] := hl
  have htab := vx_table (x := yL_placeOf) B (hts (.codeWith yL_placeOf cL_placeOf 4 (some .int) [(0, 9, 12, 23)]) List.mem_cons_self)
  have hK3 : va_K (dC, dI) vwCl (zq_T cI cZ cD) s := hK.sub [0, 1, 2] rfl
  refine lv_aload_n hx hb dL_placeOf_0 rfl (lv_at hl 2 rfl) ?_
  refine lv_iconst (v := 0) hx hb dL_placeOf_1 (by decide) ?_
  refine lv_aload_n hx hb dL_placeOf_2 rfl (lv_at hl 0 rfl) ?_
  refine lv_iload_n hx hb dL_placeOf_3 rfl (lv_at hl 1 rfl) ?_
  refine zx_cVi (E := zx_I) (As := [.int x]) (rest := [.int 0, .ref o]) (wc := (wRo a cI cZ cD ki pl tu le ch ca (nI N) tk th hu od (nI M) ti be clk)) (wr := [(o, .inl (cJ, 1, .inr (.inl ou)))]) ⟨hx, hb, hml, hown, hts⟩ (c_X3_placeOf_bad l hl0 dC dI a cI cZ cD ki pl tu le ch ca N tk th hu od M ti be clk hN hM x hx0 s.heap.size) (cwV 1 hts gL_placeOf_X3_placeOf rfl rfl rfl (by decide +kernel) ⟨(Nat.le_of_ble_eq_true rfl), (Nat.le_of_ble_eq_true rfl)⟩) hK3 hP hD hS hA hH hE [0, 1, 2, 3, 4, 5, 6, 7, 8, 9, 10, 11, 12, 13, 14] [15] [1, 2, 3, 4, 5, 6, 7, 8, 9, 10, 11, 12, 13, 14, 15, 0] rfl rfl rfl rfl (by decide) rfl rfl (ci := 3) rfl 0 rfl rfl hl.1 rfl (Nat.le_of_ble_eq_true rfl) dL_placeOf_4 ⟨(Nat.le_of_ble_eq_true rfl), (Nat.le_of_ble_eq_true rfl)⟩ (fun H locs q9 ce hP hD hS hce hcv hcl => ?_)
  refine vx_catch (name := zx_I) hown [] ⟨0, 9, 12, 23⟩ [] htab (fun z hz => absurd hz List.not_mem_nil) (by decide) (by decide) (hts (.classLink RL 23 zx_I) (by decide +kernel)) (va_Nw.use rfl hE.1.1.1.2.2) hce hcv hcl ?_
  refine lv_astore_n (lv' := [(3, .ref q9), (0, .ref (a 0)), (1, .int x), (2, .ref o)]) hx hb dL_placeOf_12 rfl hl (by decide) rfl (fun ls hl => ?_)
  refine lv_iconst (v := 1) hx hb dL_placeOf_13 (by decide) ?_
  exact W.iret (v := 1) hx hb hr (zq_qi rfl hP hK hD hS) hS.2.2 dL_placeOf_14

set_option maxHeartbeats 4000000 in
set_option maxRecDepth 100000 in
theorem c_L_chargeOf_bad (l : Launch) (hl0 : l.stackTraces = false) (dC : Nat → ClassId) (dI : Nat → Nat → Nat) (a : Nat → Nat) (cI cZ cD : ClassId) (ki pl tu le : Nat → Int32) (ch ca : Nat → UInt64) (N : Nat) (tk th hu od : Nat → Int32) (M : Nat) (ti : Int32) (be : Nat → Int32) (clk : Int32) (hN : N ≤ 40) (hM : M ≤ 30) (x : Int32) (hx0 : in_b x 0 (nI N - 1) = false) (o : Nat) (od2 : Nat → UInt64) (sz : Nat) : zl_M l yL_chargeOf wsL_chargeOf ({ frames := 8, cells := 1, slots := 6, locals := 132 } : Room) (dC, dI) (zq_T cI cZ cD) [.ref (a 0), .int x, .ref o] (wRd a cI cZ cD o ki pl tu le ch ca (nI N) tk th hu od (nI M) ti be clk od2) 1 sz := by
  refine va_MetW (cc := cL_chargeOf) (maxL := 4) (ret := (some .int)) (by decide) rfl ?_
  intro p e s m args below meth c s₁ B hml hv
  obtain ⟨rfl, ⟨hsz, hP, hK, hD0⟩, hH, hE⟩ := hv
  have hx := B.exec
  have hb := B.bytes
  have hr := B.returns
  have hts := atoms_spec (ws := wsL_chargeOf) B.pre
  have hown : s.vm.findClass RL = some m.cls := findClass_of_methodNamed B.named
  have hlocks := B.notSynchronized
  subst hsz
  have hD := hD0.self (sz := s.heap.size)
  generalize hAe : va_A (wRd a cI cZ cD o ki pl tu le ch ca (nI N) tk th hu od (nI M) ti be clk od2) s.heap.size = A at hD hH ⊢
  have hA : ∀ q : Nat, s.heap.size ≤ q → A q := fun q h => by rw [← hAe]; exact Or.inr h
  have hS : va_S A s.heap s.heap [] := va_S.rf
  have hP : va_P (dC, dI) vwCl (wRd a cI cZ cD o ki pl tu le ch ca (nI N) tk th hu od (nI M) ti be clk od2) s.heap := hP
  have hl := lv_entry ([.ref (a 0), .int x, .ref o]) (n := 4) (Nat.le_of_ble_eq_true rfl)
  rw [lg_entry_eq]
  generalize (lg_sl ([.ref (a 0), .int x, .ref o]) ++ List.replicate (4 - (lg_sl ([.ref (a 0), .int x, .ref o])).length) Slot.unset).toArray = ls at hl ⊢
  have hl : lv_has ls 4 [(0, .ref (a 0)), (1, .int x), (2, .ref o)] := hl
  have htab := vx_table (x := yL_chargeOf) B (hts (.codeWith yL_chargeOf cL_chargeOf 4 (some .int) [(0, 8, 11, 23)]) List.mem_cons_self)
  refine lv_aload_n hx hb dL_chargeOf_0 rfl (lv_at hl 2 rfl) ?_
  refine lv_iconst (v := 0) hx hb dL_chargeOf_1 (by decide) ?_
  refine lv_aload_n hx hb dL_chargeOf_2 rfl (lv_at hl 0 rfl) ?_
  refine lv_iload_n hx hb dL_chargeOf_3 rfl (lv_at hl 1 rfl) ?_
  refine zx_cVd (E := zx_I) (As := [.int x]) (rest := [.int 0, .ref o]) (wc := (wRo a cI cZ cD ki pl tu le ch ca (nI N) tk th hu od (nI M) ti be clk)) (wr := [(o, .inl (cD, 1, .inr (.inr (.inr (.inl od2)))))]) ⟨hx, hb, hml, hown, hts⟩ (c_X3_chargeOf_bad l hl0 dC dI a cI cZ cD ki pl tu le ch ca N tk th hu od M ti be clk hN hM x hx0 s.heap.size) (cwV 1 hts gL_chargeOf_X3_chargeOf rfl rfl rfl (by decide +kernel) ⟨(Nat.le_of_ble_eq_true rfl), (Nat.le_of_ble_eq_true rfl)⟩) hK hP hD hS hA hH hE [0, 1, 2, 3, 4, 5, 6, 7, 8, 9, 10, 11, 12, 13, 14] [15] [1, 2, 3, 4, 5, 6, 7, 8, 9, 10, 11, 12, 13, 14, 15, 0] rfl rfl rfl rfl (by decide) rfl rfl (ci := 3) rfl 0 rfl rfl hl.1 rfl (Nat.le_of_ble_eq_true rfl) dL_chargeOf_4 ⟨(Nat.le_of_ble_eq_true rfl), (Nat.le_of_ble_eq_true rfl)⟩ (fun H locs q9 ce hP hD hS hce hcv hcl => ?_)
  refine vx_catch (name := zx_I) hown [] ⟨0, 8, 11, 23⟩ [] htab (fun z hz => absurd hz List.not_mem_nil) (by decide) (by decide) (hts (.classLink RL 23 zx_I) (by decide +kernel)) (va_Nw.use rfl hE.1.1.1.2.2) hce hcv hcl ?_
  refine lv_astore_n (lv' := [(3, .ref q9), (0, .ref (a 0)), (1, .int x), (2, .ref o)]) hx hb dL_chargeOf_11 rfl hl (by decide) rfl (fun ls hl => ?_)
  refine lv_iconst (v := 1) hx hb dL_chargeOf_12 (by decide) ?_
  exact W.iret (v := 1) hx hb hr (zq_qi rfl hP hK hD hS) hS.2.2 dL_chargeOf_13

set_option maxHeartbeats 4000000 in
set_option maxRecDepth 100000 in
theorem c_L_capacityOf_bad (l : Launch) (hl0 : l.stackTraces = false) (dC : Nat → ClassId) (dI : Nat → Nat → Nat) (a : Nat → Nat) (cI cZ cD : ClassId) (ki pl tu le : Nat → Int32) (ch ca : Nat → UInt64) (N : Nat) (tk th hu od : Nat → Int32) (M : Nat) (ti : Int32) (be : Nat → Int32) (clk : Int32) (hN : N ≤ 40) (hM : M ≤ 30) (x : Int32) (hx0 : in_b x 0 (nI N - 1) = false) (o : Nat) (od2 : Nat → UInt64) (sz : Nat) : zl_M l yL_capacityOf wsL_capacityOf ({ frames := 8, cells := 1, slots := 6, locals := 132 } : Room) (dC, dI) (zq_T cI cZ cD) [.ref (a 0), .int x, .ref o] (wRd a cI cZ cD o ki pl tu le ch ca (nI N) tk th hu od (nI M) ti be clk od2) 1 sz := by
  refine va_MetW (cc := cL_capacityOf) (maxL := 4) (ret := (some .int)) (by decide) rfl ?_
  intro p e s m args below meth c s₁ B hml hv
  obtain ⟨rfl, ⟨hsz, hP, hK, hD0⟩, hH, hE⟩ := hv
  have hx := B.exec
  have hb := B.bytes
  have hr := B.returns
  have hts := atoms_spec (ws := wsL_capacityOf) B.pre
  have hown : s.vm.findClass RL = some m.cls := findClass_of_methodNamed B.named
  have hlocks := B.notSynchronized
  subst hsz
  have hD := hD0.self (sz := s.heap.size)
  generalize hAe : va_A (wRd a cI cZ cD o ki pl tu le ch ca (nI N) tk th hu od (nI M) ti be clk od2) s.heap.size = A at hD hH ⊢
  have hA : ∀ q : Nat, s.heap.size ≤ q → A q := fun q h => by rw [← hAe]; exact Or.inr h
  have hS : va_S A s.heap s.heap [] := va_S.rf
  have hP : va_P (dC, dI) vwCl (wRd a cI cZ cD o ki pl tu le ch ca (nI N) tk th hu od (nI M) ti be clk od2) s.heap := hP
  have hl := lv_entry ([.ref (a 0), .int x, .ref o]) (n := 4) (Nat.le_of_ble_eq_true rfl)
  rw [lg_entry_eq]
  generalize (lg_sl ([.ref (a 0), .int x, .ref o]) ++ List.replicate (4 - (lg_sl ([.ref (a 0), .int x, .ref o])).length) Slot.unset).toArray = ls at hl ⊢
  have hl : lv_has ls 4 [(0, .ref (a 0)), (1, .int x), (2, .ref o)] := hl
  have htab := vx_table (x := yL_capacityOf) B (hts (.codeWith yL_capacityOf cL_capacityOf 4 (some .int) [(0, 8, 11, 23)]) List.mem_cons_self)
  refine lv_aload_n hx hb dL_capacityOf_0 rfl (lv_at hl 2 rfl) ?_
  refine lv_iconst (v := 0) hx hb dL_capacityOf_1 (by decide) ?_
  refine lv_aload_n hx hb dL_capacityOf_2 rfl (lv_at hl 0 rfl) ?_
  refine lv_iload_n hx hb dL_capacityOf_3 rfl (lv_at hl 1 rfl) ?_
  refine zx_cVd (E := zx_I) (As := [.int x]) (rest := [.int 0, .ref o]) (wc := (wRo a cI cZ cD ki pl tu le ch ca (nI N) tk th hu od (nI M) ti be clk)) (wr := [(o, .inl (cD, 1, .inr (.inr (.inr (.inl od2)))))]) ⟨hx, hb, hml, hown, hts⟩ (c_X3_capacityOf_bad l hl0 dC dI a cI cZ cD ki pl tu le ch ca N tk th hu od M ti be clk hN hM x hx0 s.heap.size) (cwV 1 hts gL_capacityOf_X3_capacityOf rfl rfl rfl (by decide +kernel) ⟨(Nat.le_of_ble_eq_true rfl), (Nat.le_of_ble_eq_true rfl)⟩) hK hP hD hS hA hH hE [0, 1, 2, 3, 4, 5, 6, 7, 8, 9, 10, 11, 12, 13, 14] [15] [1, 2, 3, 4, 5, 6, 7, 8, 9, 10, 11, 12, 13, 14, 15, 0] rfl rfl rfl rfl (by decide) rfl rfl (ci := 3) rfl 0 rfl rfl hl.1 rfl (Nat.le_of_ble_eq_true rfl) dL_capacityOf_4 ⟨(Nat.le_of_ble_eq_true rfl), (Nat.le_of_ble_eq_true rfl)⟩ (fun H locs q9 ce hP hD hS hce hcv hcl => ?_)
  refine vx_catch (name := zx_I) hown [] ⟨0, 8, 11, 23⟩ [] htab (fun z hz => absurd hz List.not_mem_nil) (by decide) (by decide) (hts (.classLink RL 23 zx_I) (by decide +kernel)) (va_Nw.use rfl hE.1.1.1.2.2) hce hcv hcl ?_
  refine lv_astore_n (lv' := [(3, .ref q9), (0, .ref (a 0)), (1, .int x), (2, .ref o)]) hx hb dL_capacityOf_11 rfl hl (by decide) rfl (fun ls hl => ?_)
  refine lv_iconst (v := 1) hx hb dL_capacityOf_12 (by decide) ?_
  exact W.iret (v := 1) hx hb hr (zq_qi rfl hP hK hD hS) hS.2.2 dL_capacityOf_13

set_option maxHeartbeats 4000000 in
set_option maxRecDepth 100000 in
theorem c_L_turnsOf_bad (l : Launch) (hl0 : l.stackTraces = false) (dC : Nat → ClassId) (dI : Nat → Nat → Nat) (a : Nat → Nat) (cI cZ cD : ClassId) (ki pl tu le : Nat → Int32) (ch ca : Nat → UInt64) (N : Nat) (tk th hu od : Nat → Int32) (M : Nat) (ti : Int32) (be : Nat → Int32) (clk : Int32) (hN : N ≤ 40) (hM : M ≤ 30) (x : Int32) (hx0 : in_b x 0 (nI N - 1) = false) (cJ : ClassId) (o : Nat) (ou : Nat → Int64) (sz : Nat) : zl_M l yL_turnsOf wsL_turnsOf ({ frames := 8, cells := 1, slots := 6, locals := 132 } : Room) (dC, dI) (zq_T4 cI cZ cD cJ) [.ref (a 0), .int x, .ref o] (wRl a cI cZ cD cJ o ki pl tu le ch ca (nI N) tk th hu od (nI M) ti be clk ou) 1 sz := by
  refine va_MetW (cc := cL_turnsOf) (maxL := 4) (ret := (some .int)) (by decide) rfl ?_
  intro p e s m args below meth c s₁ B hml hv
  obtain ⟨rfl, ⟨hsz, hP, hK, hD0⟩, hH, hE⟩ := hv
  have hx := B.exec
  have hb := B.bytes
  have hr := B.returns
  have hts := atoms_spec (ws := wsL_turnsOf) B.pre
  have hown : s.vm.findClass RL = some m.cls := findClass_of_methodNamed B.named
  have hlocks := B.notSynchronized
  subst hsz
  have hD := hD0.self (sz := s.heap.size)
  generalize hAe : va_A (wRl a cI cZ cD cJ o ki pl tu le ch ca (nI N) tk th hu od (nI M) ti be clk ou) s.heap.size = A at hD hH ⊢
  have hA : ∀ q : Nat, s.heap.size ≤ q → A q := fun q h => by rw [← hAe]; exact Or.inr h
  have hS : va_S A s.heap s.heap [] := va_S.rf
  have hP : va_P (dC, dI) vwCl (wRl a cI cZ cD cJ o ki pl tu le ch ca (nI N) tk th hu od (nI M) ti be clk ou) s.heap := hP
  have hl := lv_entry ([.ref (a 0), .int x, .ref o]) (n := 4) (Nat.le_of_ble_eq_true rfl)
  rw [lg_entry_eq]
  generalize (lg_sl ([.ref (a 0), .int x, .ref o]) ++ List.replicate (4 - (lg_sl ([.ref (a 0), .int x, .ref o])).length) Slot.unset).toArray = ls at hl ⊢
  have hl : lv_has ls 4 [(0, .ref (a 0)), (1, .int x), (2, .ref o)] := hl
  have htab := vx_table (x := yL_turnsOf) B (hts (.codeWith yL_turnsOf cL_turnsOf 4 (some .int) [(0, 9, 12, 23)]) List.mem_cons_self)
  have hK3 : va_K (dC, dI) vwCl (zq_T cI cZ cD) s := hK.sub [0, 1, 2] rfl
  refine lv_aload_n hx hb dL_turnsOf_0 rfl (lv_at hl 2 rfl) ?_
  refine lv_iconst (v := 0) hx hb dL_turnsOf_1 (by decide) ?_
  refine lv_aload_n hx hb dL_turnsOf_2 rfl (lv_at hl 0 rfl) ?_
  refine lv_iload_n hx hb dL_turnsOf_3 rfl (lv_at hl 1 rfl) ?_
  refine zx_cVi (E := zx_I) (As := [.int x]) (rest := [.int 0, .ref o]) (wc := (wRo a cI cZ cD ki pl tu le ch ca (nI N) tk th hu od (nI M) ti be clk)) (wr := [(o, .inl (cJ, 1, .inr (.inl ou)))]) ⟨hx, hb, hml, hown, hts⟩ (c_X3_turnsOf_bad l hl0 dC dI a cI cZ cD ki pl tu le ch ca N tk th hu od M ti be clk hN hM x hx0 s.heap.size) (cwV 1 hts gL_turnsOf_X3_turnsOf rfl rfl rfl (by decide +kernel) ⟨(Nat.le_of_ble_eq_true rfl), (Nat.le_of_ble_eq_true rfl)⟩) hK3 hP hD hS hA hH hE [0, 1, 2, 3, 4, 5, 6, 7, 8, 9, 10, 11, 12, 13, 14] [15] [1, 2, 3, 4, 5, 6, 7, 8, 9, 10, 11, 12, 13, 14, 15, 0] rfl rfl rfl rfl (by decide) rfl rfl (ci := 3) rfl 0 rfl rfl hl.1 rfl (Nat.le_of_ble_eq_true rfl) dL_turnsOf_4 ⟨(Nat.le_of_ble_eq_true rfl), (Nat.le_of_ble_eq_true rfl)⟩ (fun H locs q9 ce hP hD hS hce hcv hcl => ?_)
  refine vx_catch (name := zx_I) hown [] ⟨0, 9, 12, 23⟩ [] htab (fun z hz => absurd hz List.not_mem_nil) (by decide) (by decide) (hts (.classLink RL 23 zx_I) (by decide +kernel)) (va_Nw.use rfl hE.1.1.1.2.2) hce hcv hcl ?_
  refine lv_astore_n (lv' := [(3, .ref q9), (0, .ref (a 0)), (1, .int x), (2, .ref o)]) hx hb dL_turnsOf_12 rfl hl (by decide) rfl (fun ls hl => ?_)
  refine lv_iconst (v := 1) hx hb dL_turnsOf_13 (by decide) ?_
  exact W.iret (v := 1) hx hb hr (zq_qi rfl hP hK hD hS) hS.2.2 dL_turnsOf_14

set_option maxHeartbeats 4000000 in
set_option maxRecDepth 100000 in
theorem c_L_ready_bad (l : Launch) (hl0 : l.stackTraces = false) (dC : Nat → ClassId) (dI : Nat → Nat → Nat) (a : Nat → Nat) (cI cZ cD : ClassId) (ki pl tu le : Nat → Int32) (ch ca : Nat → UInt64) (N : Nat) (tk th hu od : Nat → Int32) (M : Nat) (ti : Int32) (be : Nat → Int32) (clk : Int32) (hN : N ≤ 40) (hM : M ≤ 30) (k : Int32) (hk : in_b k 0 2 = false) (cJ : ClassId) (o : Nat) (ou : Nat → Int64) (sz : Nat) : zl_M l yL_ready wsL_ready ({ frames := 8, cells := 1, slots := 6, locals := 131 } : Room) (dC, dI) (zq_T4 cI cZ cD cJ) [.ref (a 0), .int k, .ref o] (wRl a cI cZ cD cJ o ki pl tu le ch ca (nI N) tk th hu od (nI M) ti be clk ou) 1 sz := by
  refine va_MetW (cc := cL_ready) (maxL := 4) (ret := (some .int)) (by decide) rfl ?_
  intro p e s m args below meth c s₁ B hml hv
  obtain ⟨rfl, ⟨hsz, hP, hK, hD0⟩, hH, hE⟩ := hv
  have hx := B.exec
  have hb := B.bytes
  have hr := B.returns
  have hts := atoms_spec (ws := wsL_ready) B.pre
  have hown : s.vm.findClass RL = some m.cls := findClass_of_methodNamed B.named
  have hlocks := B.notSynchronized
  subst hsz
  have hD := hD0.self (sz := s.heap.size)
  generalize hAe : va_A (wRl a cI cZ cD cJ o ki pl tu le ch ca (nI N) tk th hu od (nI M) ti be clk ou) s.heap.size = A at hD hH ⊢
  have hA : ∀ q : Nat, s.heap.size ≤ q → A q := fun q h => by rw [← hAe]; exact Or.inr h
  have hS : va_S A s.heap s.heap [] := va_S.rf
  have hP : va_P (dC, dI) vwCl (wRl a cI cZ cD cJ o ki pl tu le ch ca (nI N) tk th hu od (nI M) ti be clk ou) s.heap := hP
  have hl := lv_entry ([.ref (a 0), .int k, .ref o]) (n := 4) (Nat.le_of_ble_eq_true rfl)
  rw [lg_entry_eq]
  generalize (lg_sl ([.ref (a 0), .int k, .ref o]) ++ List.replicate (4 - (lg_sl ([.ref (a 0), .int k, .ref o])).length) Slot.unset).toArray = ls at hl ⊢
  have hl : lv_has ls 4 [(0, .ref (a 0)), (1, .int k), (2, .ref o)] := hl
  have htab := vx_table (x := yL_ready) B (hts (.codeWith yL_ready cL_ready 4 (some .int) [(0, 9, 12, 13)]) List.mem_cons_self)
  have hK3 : va_K (dC, dI) vwCl (zq_T cI cZ cD) s := hK.sub [0, 1, 2] rfl
  refine lv_aload_n hx hb dL_ready_0 rfl (lv_at hl 2 rfl) ?_
  refine lv_iconst (v := 0) hx hb dL_ready_1 (by decide) ?_
  refine lv_aload_n hx hb dL_ready_2 rfl (lv_at hl 0 rfl) ?_
  refine lv_iload_n hx hb dL_ready_3 rfl (lv_at hl 1 rfl) ?_
  refine zx_cVi (E := zx_A) (As := [.int k]) (rest := [.int 0, .ref o]) (wc := (wRo a cI cZ cD ki pl tu le ch ca (nI N) tk th hu od (nI M) ti be clk)) (wr := [(o, .inl (cJ, 1, .inr (.inl ou)))]) ⟨hx, hb, hml, hown, hts⟩ (c_X3_ready_bad l hl0 dC dI a cI cZ cD ki pl tu le ch ca N tk th hu od M ti be clk hN hM k hk s.heap.size) (cwV 1 hts gL_ready_X3_ready rfl rfl rfl (by decide +kernel) ⟨(Nat.le_of_ble_eq_true rfl), (Nat.le_of_ble_eq_true rfl)⟩) hK3 hP hD hS hA hH hE [0, 1, 2, 3, 4, 5, 6, 7, 8, 9, 10, 11, 12, 13, 14] [15] [1, 2, 3, 4, 5, 6, 7, 8, 9, 10, 11, 12, 13, 14, 15, 0] rfl rfl rfl rfl (by decide) rfl rfl (ci := 3) rfl 0 rfl rfl hl.1 rfl (Nat.le_of_ble_eq_true rfl) dL_ready_4 ⟨(Nat.le_of_ble_eq_true rfl), (Nat.le_of_ble_eq_true rfl)⟩ (fun H locs q9 ce hP hD hS hce hcv hcl => ?_)
  refine vx_catch (name := zx_A) hown [] ⟨0, 9, 12, 13⟩ [] htab (fun z hz => absurd hz List.not_mem_nil) (by decide) (by decide) (hts (.classLink RL 13 zx_A) (by decide +kernel)) (va_Nw.use rfl hE.1.1.1.1) hce hcv hcl ?_
  refine lv_astore_n (lv' := [(3, .ref q9), (0, .ref (a 0)), (1, .int k), (2, .ref o)]) hx hb dL_ready_12 rfl hl (by decide) rfl (fun ls hl => ?_)
  refine lv_iconst (v := 1) hx hb dL_ready_13 (by decide) ?_
  exact W.iret (v := 1) hx hb hr (zq_qi rfl hP hK hD hS) hS.2.2 dL_ready_14

set_option maxHeartbeats 4000000 in
set_option maxRecDepth 100000 in
theorem c_L_lightLeft_bad (l : Launch) (hl0 : l.stackTraces = false) (dC : Nat → ClassId) (dI : Nat → Nat → Nat) (a : Nat → Nat) (cI cZ cD : ClassId) (ki pl tu le : Nat → Int32) (ch ca : Nat → UInt64) (N : Nat) (tk th hu od : Nat → Int32) (M : Nat) (ti : Int32) (be : Nat → Int32) (clk : Int32) (hN : N ≤ 40) (hM : M ≤ 30) (x : Int32) (hx0 : in_b x 0 (nI M - 1) = false) (cJ : ClassId) (o : Nat) (ou : Nat → Int64) (sz : Nat) : zl_M l yL_lightLeft wsL_lightLeft ({ frames := 8, cells := 1, slots := 6, locals := 133 } : Room) (dC, dI) (zq_T4 cI cZ cD cJ) [.ref (a 0), .int x, .ref o] (wRl a cI cZ cD cJ o ki pl tu le ch ca (nI N) tk th hu od (nI M) ti be clk ou) 1 sz := by
  refine va_MetW (cc := cL_lightLeft) (maxL := 4) (ret := (some .int)) (by decide) rfl ?_
  intro p e s m args below meth c s₁ B hml hv
  obtain ⟨rfl, ⟨hsz, hP, hK, hD0⟩, hH, hE⟩ := hv
  have hx := B.exec
  have hb := B.bytes
  have hr := B.returns
  have hts := atoms_spec (ws := wsL_lightLeft) B.pre
  have hown : s.vm.findClass RL = some m.cls := findClass_of_methodNamed B.named
  have hlocks := B.notSynchronized
  subst hsz
  have hD := hD0.self (sz := s.heap.size)
  generalize hAe : va_A (wRl a cI cZ cD cJ o ki pl tu le ch ca (nI N) tk th hu od (nI M) ti be clk ou) s.heap.size = A at hD hH ⊢
  have hA : ∀ q : Nat, s.heap.size ≤ q → A q := fun q h => by rw [← hAe]; exact Or.inr h
  have hS : va_S A s.heap s.heap [] := va_S.rf
  have hP : va_P (dC, dI) vwCl (wRl a cI cZ cD cJ o ki pl tu le ch ca (nI N) tk th hu od (nI M) ti be clk ou) s.heap := hP
  have hl := lv_entry ([.ref (a 0), .int x, .ref o]) (n := 4) (Nat.le_of_ble_eq_true rfl)
  rw [lg_entry_eq]
  generalize (lg_sl ([.ref (a 0), .int x, .ref o]) ++ List.replicate (4 - (lg_sl ([.ref (a 0), .int x, .ref o])).length) Slot.unset).toArray = ls at hl ⊢
  have hl : lv_has ls 4 [(0, .ref (a 0)), (1, .int x), (2, .ref o)] := hl
  have htab := vx_table (x := yL_lightLeft) B (hts (.codeWith yL_lightLeft cL_lightLeft 4 (some .int) [(0, 9, 12, 23)]) List.mem_cons_self)
  have hK3 : va_K (dC, dI) vwCl (zq_T cI cZ cD) s := hK.sub [0, 1, 2] rfl
  refine lv_aload_n hx hb dL_lightLeft_0 rfl (lv_at hl 2 rfl) ?_
  refine lv_iconst (v := 0) hx hb dL_lightLeft_1 (by decide) ?_
  refine lv_aload_n hx hb dL_lightLeft_2 rfl (lv_at hl 0 rfl) ?_
  refine lv_iload_n hx hb dL_lightLeft_3 rfl (lv_at hl 1 rfl) ?_
  refine zx_cVi (E := zx_I) (As := [.int x]) (rest := [.int 0, .ref o]) (wc := (wRo a cI cZ cD ki pl tu le ch ca (nI N) tk th hu od (nI M) ti be clk)) (wr := [(o, .inl (cJ, 1, .inr (.inl ou)))]) ⟨hx, hb, hml, hown, hts⟩ (c_X3_lightLeft_bad l hl0 dC dI a cI cZ cD ki pl tu le ch ca N tk th hu od M ti be clk hN hM x hx0 s.heap.size) (cwV 1 hts gL_lightLeft_X3_lightLeft rfl rfl rfl (by decide +kernel) ⟨(Nat.le_of_ble_eq_true rfl), (Nat.le_of_ble_eq_true rfl)⟩) hK3 hP hD hS hA hH hE [0, 1, 2, 3, 4, 5, 6, 7, 8, 9, 10, 11, 12, 13, 14] [15] [1, 2, 3, 4, 5, 6, 7, 8, 9, 10, 11, 12, 13, 14, 15, 0] rfl rfl rfl rfl (by decide) rfl rfl (ci := 3) rfl 0 rfl rfl hl.1 rfl (Nat.le_of_ble_eq_true rfl) dL_lightLeft_4 ⟨(Nat.le_of_ble_eq_true rfl), (Nat.le_of_ble_eq_true rfl)⟩ (fun H locs q9 ce hP hD hS hce hcv hcl => ?_)
  refine vx_catch (name := zx_I) hown [] ⟨0, 9, 12, 23⟩ [] htab (fun z hz => absurd hz List.not_mem_nil) (by decide) (by decide) (hts (.classLink RL 23 zx_I) (by decide +kernel)) (va_Nw.use rfl hE.1.1.1.2.2) hce hcv hcl ?_
  refine lv_astore_n (lv' := [(3, .ref q9), (0, .ref (a 0)), (1, .int x), (2, .ref o)]) hx hb dL_lightLeft_12 rfl hl (by decide) rfl (fun ls hl => ?_)
  refine lv_iconst (v := 1) hx hb dL_lightLeft_13 (by decide) ?_
  exact W.iret (v := 1) hx hb hr (zq_qi rfl hP hK hD hS) hS.2.2 dL_lightLeft_14

