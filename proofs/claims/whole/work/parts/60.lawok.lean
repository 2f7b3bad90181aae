abbrev zq_T4 (cI cZ cD cJ : ClassId) : List (ClassId × FieldType) := [(cI, .int), (cZ, .boolean), (cD, .double), (cJ, .long)]
abbrev zl_M (l : Launch) (y : MethodName) (wsy : List Cond) (rm : Room) (D : va_G) (ty : List (ClassId × FieldType)) (as : List Value) (w0 : va_W) (res : Int32) (sz : Nat) : Prop :=
  Met l y wsy rm (va_Pc as (zx_Pre D ty w0 sz)) (va_Qi (fun (r : Int32) (_ : Unit) => r = res) (zq_B D ty (va_A w0 sz) w0) (va_A w0 sz)) 1 6 (va_A w0 sz)
theorem zq_last {p : Program} {l : Launch} {e : Env} {R : Room} {s : State} {m : MethodId} {args : Array Value} {below : List Frame} {meth : Method} {c : Code} {H : Heap} {locs : List Loc} {cells slots : Nat} {Q : State → Prop} {cc : ByteArray} {pc : Nat} {ls : Array Slot} {rest : List Value} {D : va_G} {ty : List (ClassId × FieldType)} {A : Nat → Prop} {H0 : Heap} {ws : va_W}
    (hexec : p.tables.exec = Jvm.exec) (hb : c.code = cc) (hK : va_K D vwCl ty s) (hP : va_P D vwCl ws H) (hD : va_D A ws) (hS : va_S A H0 H locs) (q0 t0 : Nat) {a : Nat} {cA : ClassId} {f : Nat → Int64} (ha : ws[q0]? = some (a, .inl (cA, 1, .inr (.inl f)))) (ht : ty[t0]? = some (cA, .long)) {x : Int64} (ws' : va_W) (hw : ws.set q0 (a, .inl (cA, 1, .inr (.inl (vp_updL f 0 x)))) = ws') (hdg : decode cc pc = .ok (.lastore, 1))
    (kk : ∀ (H1 : Heap) (locs1 : List Loc), va_P D vwCl ws' H1 → va_D A ws' → va_S A H0 H1 locs1 → W p l e R s m args below meth c H1 locs1 cells slots Q (F0 m (pc + 1) ls rest)) : W p l e R s m args below meth c H locs cells slots Q (F0 m pc ls (.long x :: .int 0 :: .ref a :: rest)) :=
  va_last hexec hb hK hP hD hS q0 t0 ha ht (vp_in_nI (n := 0) (by decide) (by decide)) hdg (by rw [show (0 : Int32).toNatClampNeg = 0 from rfl, hw]; exact kk)
abbrev wRl (a : Nat → Nat) (cI : ClassId) (cZ : ClassId) (cD : ClassId) (cJ : ClassId) (o : Nat) (ki : Nat → Int32) (pl : Nat → Int32) (tu : Nat → Int32) (le : Nat → Int32) (ch : Nat → UInt64) (ca : Nat → UInt64) (n : Int32) (tk : Nat → Int32) (th : Nat → Int32) (hu : Nat → Int32) (od : Nat → Int32) (tn : Int32) (ti : Int32) (be : Nat → Int32) (clk : Int32) (ou : Nat → Int64) : va_W := [(a 0, .inr (3, [.ref (a 1), .ref (a 8), .ref (a 13), .int clk])), (a 1, .inr (1, [.ref (a 2), .ref (a 3), .ref (a 4), .ref (a 5), .ref (a 6), .ref (a 7), .int n])), (a 2, .inl (cI, 40, .inl ki)), (a 3, .inl (cI, 40, .inl pl)), (a 4, .inl (cI, 40, .inl tu)), (a 5, .inl (cZ, 40, .inl le)), (a 6, .inl (cD, 40, .inr (.inr (.inr (.inl ch))))), (a 7, .inl (cD, 40, .inr (.inr (.inr (.inl ca))))), (a 8, .inr (2, [.ref (a 9), .ref (a 10), .ref (a 11), .ref (a 12), .int tn, .int ti])), (a 9, .inl (cI, 30, .inl tk)), (a 10, .inl (cI, 30, .inl th)), (a 11, .inl (cI, 30, .inl hu)), (a 12, .inl (cI, 30, .inl od)), (a 13, .inr (0, [.ref (a 14)])), (a 14, .inl (cI, 60, .inl be)), (o, .inl (cJ, 1, .inr (.inl ou)))]
abbrev wRd (a : Nat → Nat) (cI : ClassId) (cZ : ClassId) (cD : ClassId) (o : Nat) (ki : Nat → Int32) (pl : Nat → Int32) (tu : Nat → Int32) (le : Nat → Int32) (ch : Nat → UInt64) (ca : Nat → UInt64) (n : Int32) (tk : Nat → Int32) (th : Nat → Int32) (hu : Nat → Int32) (od : Nat → Int32) (tn : Int32) (ti : Int32) (be : Nat → Int32) (clk : Int32) (od2 : Nat → UInt64) : va_W := [(a 0, .inr (3, [.ref (a 1), .ref (a 8), .ref (a 13), .int clk])), (a 1, .inr (1, [.ref (a 2), .ref (a 3), .ref (a 4), .ref (a 5), .ref (a 6), .ref (a 7), .int n])), (a 2, .inl (cI, 40, .inl ki)), (a 3, .inl (cI, 40, .inl pl)), (a 4, .inl (cI, 40, .inl tu)), (a 5, .inl (cZ, 40, .inl le)), (a 6, .inl (cD, 40, .inr (.inr (.inr (.inl ch))))), (a 7, .inl (cD, 40, .inr (.inr (.inr (.inl ca))))), (a 8, .inr (2, [.ref (a 9), .ref (a 10), .ref (a 11), .ref (a 12), .int tn, .int ti])), (a 9, .inl (cI, 30, .inl tk)), (a 10, .inl (cI, 30, .inl th)), (a 11, .inl (cI, 30, .inl hu)), (a 12, .inl (cI, 30, .inl od)), (a 13, .inr (0, [.ref (a 14)])), (a 14, .inl (cI, 60, .inl be)), (o, .inl (cD, 1, .inr (.inr (.inr (.inl od2)))))]
set_option maxHeartbeats 4000000 in
set_option maxRecDepth 100000 in
theorem c_L_addLamp_ok (l : Launch) (dC : Nat → ClassId) (dI : Nat → Nat → Nat) (a : Nat → Nat) (cI cZ cD : ClassId) (ki pl tu le : Nat → Int32) (ch ca : Nat → UInt64) (N : Nat) (tk th hu od : Nat → Int32) (M : Nat) (ti : Int32) (be : Nat → Int32) (clk : Int32) (hN : N ≤ 40) (hM : M ≤ 30) (k : Int32) (hk : in_b k 0 2 = true) (hf : N < 40) (cJ : ClassId) (o : Nat) (ou : Nat → Int64) (sz : Nat) : zq_Mi l yL_addLamp wsL_addLamp ({ frames := 3, cells := 0, slots := 0, locals := 63 } : Room) (dC, dI) (zq_T4 cI cZ cD cJ) [.ref (a 0), .int k, .ref o] (wRl a cI cZ cD cJ o ki pl tu le ch ca (nI N) tk th hu od (nI M) ti be clk ou) 0 (wRl a cI cZ cD cJ o (upd ki N k) (upd pl N 0) tu le (vf_upd ch N (la_new k)) (vf_upd ca N (la_new k)) (nI (N + 1)) tk th hu od (nI M) ti be clk (vp_updL ou 0 (Int32.toInt64 (nI N)))) sz := by
  refine va_MetW (cc := cL_addLamp) (maxL := 4) (ret := (some .int)) (by decide) rfl ?_
  intro p e s m args below meth c s₁ B hml hv
  obtain ⟨rfl, hsz, hP, hK, hD0⟩ := hv
  have hx := B.exec
  have hb := B.bytes
  have hr := B.returns
  have hts := atoms_spec (ws := wsL_addLamp) B.pre
  have hown : s.vm.findClass RL = some m.cls := findClass_of_methodNamed B.named
  have hlocks := B.notSynchronized
  subst hsz
  have hD := hD0.self (sz := s.heap.size)
  generalize hAe : va_A (wRl a cI cZ cD cJ o ki pl tu le ch ca (nI N) tk th hu od (nI M) ti be clk ou) s.heap.size = A at hD ⊢
  have hA : ∀ q : Nat, s.heap.size ≤ q → A q := fun q h => by rw [← hAe]; exact Or.inr h
  have hS : va_S A s.heap s.heap [] := va_S.rf
  have hP : va_P (dC, dI) vwCl (wRl a cI cZ cD cJ o ki pl tu le ch ca (nI N) tk th hu od (nI M) ti be clk ou) s.heap := hP
  have hl := lv_entry ([.ref (a 0), .int k, .ref o]) (n := 4) (Nat.le_of_ble_eq_true rfl)
  rw [lg_entry_eq]
  generalize (lg_sl ([.ref (a 0), .int k, .ref o]) ++ List.replicate (4 - (lg_sl ([.ref (a 0), .int k, .ref o])).length) Slot.unset).toArray = ls at hl ⊢
  have hl : lv_has ls 4 [(0, .ref (a 0)), (1, .int k), (2, .ref o)] := hl
  have hK3 : va_K (dC, dI) vwCl (zq_T cI cZ cD) s := hK.sub [0, 1, 2] rfl
  refine lv_aload_n hx hb dL_addLamp_0 rfl (lv_at hl 2 rfl) ?_
  refine lv_iconst (v := 0) hx hb dL_addLamp_1 (by decide) ?_
  refine lv_aload_n hx hb dL_addLamp_2 rfl (lv_at hl 0 rfl) ?_
  refine lv_iload_n hx hb dL_addLamp_3 rfl (lv_at hl 1 rfl) ?_
  refine zq_cVi (As := [.int k]) (rest := [.int 0, .ref o]) (wc := (wRo a cI cZ cD ki pl tu le ch ca (nI N) tk th hu od (nI M) ti be clk)) (w1 := (wRo a cI cZ cD (upd ki N k) (upd pl N 0) tu le (vf_upd ch N (la_new k)) (vf_upd ca N (la_new k)) (nI (N + 1)) tk th hu od (nI M) ti be clk)) (wr := [(o, .inl (cJ, 1, .inr (.inl ou)))]) (ws' := (wRl a cI cZ cD cJ o (upd ki N k) (upd pl N 0) tu le (vf_upd ch N (la_new k)) (vf_upd ca N (la_new k)) (nI (N + 1)) tk th hu od (nI M) ti be clk ou)) ⟨hx, hb, hml, hown, hts⟩ (c_X3_addLamp_ok l dC dI a cI cZ cD ki pl tu le ch ca N tk th hu od M ti be clk (by omega) (by omega) k (hk) (hf) s.heap.size) (cwV 1 hts gL_addLamp_X3_addLamp rfl rfl rfl (by decide +kernel) ⟨Nat.le_of_ble_eq_true rfl, Nat.le_of_ble_eq_true rfl⟩) hK3 hP hD hS hA [0, 1, 2, 3, 4, 5, 6, 7, 8, 9, 10, 11, 12, 13, 14] [15] [1, 2, 3, 4, 5, 6, 7, 8, 9, 10, 11, 12, 13, 14, 15, 0] rfl rfl rfl rfl (by decide) rfl rfl (ci := 3) rfl 0 rfl rfl hl.1 rfl (Nat.le_of_ble_eq_true rfl) dL_addLamp_4 ⟨Nat.zero_le _, Nat.zero_le _⟩ (fun H locs hP hD hS => ?_)
  refine lv_i2l hx hb dL_addLamp_7 rfl ?_
  refine zq_last hx hb hK hP hD hS 15 3 rfl rfl (wRl a cI cZ cD cJ o (upd ki N k) (upd pl N 0) tu le (vf_upd ch N (la_new k)) (vf_upd ca N (la_new k)) (nI (N + 1)) tk th hu od (nI M) ti be clk (vp_updL ou 0 (Int32.toInt64 (nI N)))) rfl dL_addLamp_8 (fun H locs hP hD hS => ?_)
  refine lv_goto (tgt := 18) hx hb dL_addLamp_9 (by decide) ?_
  refine lv_iconst (v := 0) hx hb dL_addLamp_18 (by decide) ?_
  exact W.iret (v := 0) hx hb hr (zq_qi rfl hP hK hD hS) hS.2.2 dL_addLamp_19

set_option maxHeartbeats 4000000 in
set_option maxRecDepth 100000 in
theorem c_L_addMiner_ok (l : Launch) (dC : Nat → ClassId) (dI : Nat → Nat → Nat) (a : Nat → Nat) (cI cZ cD : ClassId) (ki pl tu le : Nat → Int32) (ch ca : Nat → UInt64) (N : Nat) (tk th hu od : Nat → Int32) (M : Nat) (ti : Int32) (be : Nat → Int32) (clk : Int32) (hN : N ≤ 40) (hM : M ≤ 30) (k : Int32) (hk : in_b k 0 2 = true) (hf : M < 30) (cJ : ClassId) (o : Nat) (ou : Nat → Int64) (sz : Nat) : zq_Mi l yL_addMiner wsL_addMiner ({ frames := 2, cells := 0, slots := 0, locals := 43 } : Room) (dC, dI) (zq_T4 cI cZ cD cJ) [.ref (a 0), .int k, .ref o] (wRl a cI cZ cD cJ o ki pl tu le ch ca (nI N) tk th hu od (nI M) ti be clk ou) 0 (wRl a cI cZ cD cJ o ki pl tu le ch ca (nI N) (upd tk M k) (upd th M (-1)) hu od (nI (M + 1)) ti be clk (vp_updL ou 0 (Int32.toInt64 (nI M)))) sz := by
  refine va_MetW (cc := cL_addMiner) (maxL := 4) (ret := (some .int)) (by decide) rfl ?_
  intro p e s m args below meth c s₁ B hml hv
  obtain ⟨rfl, hsz, hP, hK, hD0⟩ := hv
  have hx := B.exec
  have hb := B.bytes
  have hr := B.returns
  have hts := atoms_spec (ws := wsL_addMiner) B.pre
  have hown : s.vm.findClass RL = some m.cls := findClass_of_methodNamed B.named
  have hlocks := B.notSynchronized
  subst hsz
  have hD := hD0.self (sz := s.heap.size)
  generalize hAe : va_A (wRl a cI cZ cD cJ o ki pl tu le ch ca (nI N) tk th hu od (nI M) ti be clk ou) s.heap.size = A at hD ⊢
  have hA : ∀ q : Nat, s.heap.size ≤ q → A q := fun q h => by rw [← hAe]; exact Or.inr h
  have hS : va_S A s.heap s.heap [] := va_S.rf
  have hP : va_P (dC, dI) vwCl (wRl a cI cZ cD cJ o ki pl tu le ch ca (nI N) tk th hu od (nI M) ti be clk ou) s.heap := hP
  have hl := lv_entry ([.ref (a 0), .int k, .ref o]) (n := 4) (Nat.le_of_ble_eq_true rfl)
  rw [lg_entry_eq]
  generalize (lg_sl ([.ref (a 0), .int k, .ref o]) ++ List.replicate (4 - (lg_sl ([.ref (a 0), .int k, .ref o])).length) Slot.unset).toArray = ls at hl ⊢
  have hl : lv_has ls 4 [(0, .ref (a 0)), (1, .int k), (2, .ref o)] := hl
  have hK3 : va_K (dC, dI) vwCl (zq_T cI cZ cD) s := hK.sub [0, 1, 2] rfl
  refine lv_aload_n hx hb dL_addMiner_0 rfl (lv_at hl 2 rfl) ?_
  refine lv_iconst (v := 0) hx hb dL_addMiner_1 (by decide) ?_
  refine lv_aload_n hx hb dL_addMiner_2 rfl (lv_at hl 0 rfl) ?_
  refine lv_iload_n hx hb dL_addMiner_3 rfl (lv_at hl 1 rfl) ?_
  refine zq_cVi (As := [.int k]) (rest := [.int 0, .ref o]) (wc := (wRo a cI cZ cD ki pl tu le ch ca (nI N) tk th hu od (nI M) ti be clk)) (w1 := (wRo a cI cZ cD ki pl tu le ch ca (nI N) (upd tk M k) (upd th M (-1)) hu od (nI (M + 1)) ti be clk)) (wr := [(o, .inl (cJ, 1, .inr (.inl ou)))]) (ws' := (wRl a cI cZ cD cJ o ki pl tu le ch ca (nI N) (upd tk M k) (upd th M (-1)) hu od (nI (M + 1)) ti be clk ou)) ⟨hx, hb, hml, hown, hts⟩ (c_X3_addMiner_ok l dC dI a cI cZ cD ki pl tu le ch ca N tk th hu od M ti be clk (by omega) (by omega) k (hk) (hf) s.heap.size) (cwV 1 hts gL_addMiner_X3_addMiner rfl rfl rfl (by decide +kernel) ⟨Nat.le_of_ble_eq_true rfl, Nat.le_of_ble_eq_true rfl⟩) hK3 hP hD hS hA [0, 1, 2, 3, 4, 5, 6, 7, 8, 9, 10, 11, 12, 13, 14] [15] [1, 2, 3, 4, 5, 6, 7, 8, 9, 10, 11, 12, 13, 14, 15, 0] rfl rfl rfl rfl (by decide) rfl rfl (ci := 3) rfl 0 rfl rfl hl.1 rfl (Nat.le_of_ble_eq_true rfl) dL_addMiner_4 ⟨Nat.zero_le _, Nat.zero_le _⟩ (fun H locs hP hD hS => ?_)
  refine lv_i2l hx hb dL_addMiner_7 rfl ?_
  refine zq_last hx hb hK hP hD hS 15 3 rfl rfl (wRl a cI cZ cD cJ o ki pl tu le ch ca (nI N) (upd tk M k) (upd th M (-1)) hu od (nI (M + 1)) ti be clk (vp_updL ou 0 (Int32.toInt64 (nI M)))) rfl dL_addMiner_8 (fun H locs hP hD hS => ?_)
  refine lv_goto (tgt := 18) hx hb dL_addMiner_9 (by decide) ?_
  refine lv_iconst (v := 0) hx hb dL_addMiner_18 (by decide) ?_
  exact W.iret (v := 0) hx hb hr (zq_qi rfl hP hK hD hS) hS.2.2 dL_addMiner_19

set_option maxHeartbeats 4000000 in
set_option maxRecDepth 100000 in
theorem c_L_issue_ok (l : Launch) (dC : Nat → ClassId) (dI : Nat → Nat → Nat) (a : Nat → Nat) (cI cZ cD : ClassId) (ki pl tu le : Nat → Int32) (ch ca : Nat → UInt64) (N : Nat) (tk th hu od : Nat → Int32) (M : Nat) (ti : Int32) (be : Nat → Int32) (clk : Int32) (hN : N ≤ 40) (hM : M ≤ 30) (mi : Nat) (hm : mi < M) (hla : th mi = -1) (w : Nat) (hw : w < 3) (hwa : tk mi = nI w) (j : Nat) (hj : j < N) (hb0 : la_best ki pl ch N (3 - w) w = nI j) (cJ : ClassId) (o : Nat) (ou : Nat → Int64) (sz : Nat) : zq_Mi l yL_issue wsL_issue ({ frames := 4, cells := 0, slots := 0, locals := 90 } : Room) (dC, dI) (zq_T4 cI cZ cD cJ) [.ref (a 0), .int (nI mi), .ref o] (wRl a cI cZ cD cJ o ki pl tu le ch ca (nI N) tk th hu od (nI M) ti be clk ou) 0 (wRl a cI cZ cD cJ o ki (upd pl j 1) tu le ch ca (nI N) tk (upd th mi (nI j)) (upd hu mi clk) (upd od mi ti) (nI M) (ti + 1) be clk (vp_updL ou 0 (Int32.toInt64 (nI j)))) sz := by
  refine va_MetW (cc := cL_issue) (maxL := 4) (ret := (some .int)) (by decide) rfl ?_
  intro p e s m args below meth c s₁ B hml hv
  obtain ⟨rfl, hsz, hP, hK, hD0⟩ := hv
  have hx := B.exec
  have hb := B.bytes
  have hr := B.returns
  have hts := atoms_spec (ws := wsL_issue) B.pre
  have hown : s.vm.findClass RL = some m.cls := findClass_of_methodNamed B.named
  have hlocks := B.notSynchronized
  subst hsz
  have hD := hD0.self (sz := s.heap.size)
  generalize hAe : va_A (wRl a cI cZ cD cJ o ki pl tu le ch ca (nI N) tk th hu od (nI M) ti be clk ou) s.heap.size = A at hD ⊢
  have hA : ∀ q : Nat, s.heap.size ≤ q → A q := fun q h => by rw [← hAe]; exact Or.inr h
  have hS : va_S A s.heap s.heap [] := va_S.rf
  have hP : va_P (dC, dI) vwCl (wRl a cI cZ cD cJ o ki pl tu le ch ca (nI N) tk th hu od (nI M) ti be clk ou) s.heap := hP
  have hl := lv_entry ([.ref (a 0), .int (nI mi), .ref o]) (n := 4) (Nat.le_of_ble_eq_true rfl)
  rw [lg_entry_eq]
  generalize (lg_sl ([.ref (a 0), .int (nI mi), .ref o]) ++ List.replicate (4 - (lg_sl ([.ref (a 0), .int (nI mi), .ref o])).length) Slot.unset).toArray = ls at hl ⊢
  have hl : lv_has ls 4 [(0, .ref (a 0)), (1, .int (nI mi)), (2, .ref o)] := hl
  have hK3 : va_K (dC, dI) vwCl (zq_T cI cZ cD) s := hK.sub [0, 1, 2] rfl
  refine lv_aload_n hx hb dL_issue_0 rfl (lv_at hl 2 rfl) ?_
  refine lv_iconst (v := 0) hx hb dL_issue_1 (by decide) ?_
  refine lv_aload_n hx hb dL_issue_2 rfl (lv_at hl 0 rfl) ?_
  refine lv_iload_n hx hb dL_issue_3 rfl (lv_at hl 1 rfl) ?_
  refine zq_cVi (As := [.int (nI mi)]) (rest := [.int 0, .ref o]) (wc := (wRo a cI cZ cD ki pl tu le ch ca (nI N) tk th hu od (nI M) ti be clk)) (w1 := (wRo a cI cZ cD ki (upd pl j 1) tu le ch ca (nI N) tk (upd th mi (nI j)) (upd hu mi clk) (upd od mi ti) (nI M) (ti + 1) be clk)) (wr := [(o, .inl (cJ, 1, .inr (.inl ou)))]) (ws' := (wRl a cI cZ cD cJ o ki (upd pl j 1) tu le ch ca (nI N) tk (upd th mi (nI j)) (upd hu mi clk) (upd od mi ti) (nI M) (ti + 1) be clk ou)) ⟨hx, hb, hml, hown, hts⟩ (c_X3_issue_ok l dC dI a cI cZ cD ki pl tu le ch ca N tk th hu od M ti be clk (by omega) (by omega) mi (hm) (hla) (w) (hw) (hwa) (j) (hj) (hb0) s.heap.size) (cwV 1 hts gL_issue_X3_issue rfl rfl rfl (by decide +kernel) ⟨Nat.le_of_ble_eq_true rfl, Nat.le_of_ble_eq_true rfl⟩) hK3 hP hD hS hA [0, 1, 2, 3, 4, 5, 6, 7, 8, 9, 10, 11, 12, 13, 14] [15] [1, 2, 3, 4, 5, 6, 7, 8, 9, 10, 11, 12, 13, 14, 15, 0] rfl rfl rfl rfl (by decide) rfl rfl (ci := 3) rfl 0 rfl rfl hl.1 rfl (Nat.le_of_ble_eq_true rfl) dL_issue_4 ⟨Nat.zero_le _, Nat.zero_le _⟩ (fun H locs hP hD hS => ?_)
  refine lv_i2l hx hb dL_issue_7 rfl ?_
  refine zq_last hx hb hK hP hD hS 15 3 rfl rfl (wRl a cI cZ cD cJ o ki (upd pl j 1) tu le ch ca (nI N) tk (upd th mi (nI j)) (upd hu mi clk) (upd od mi ti) (nI M) (ti + 1) be clk (vp_updL ou 0 (Int32.toInt64 (nI j)))) rfl dL_issue_8 (fun H locs hP hD hS => ?_)
  refine lv_goto (tgt := 18) hx hb dL_issue_9 (by decide) ?_
  refine lv_iconst (v := 0) hx hb dL_issue_18 (by decide) ?_
  exact W.iret (v := 0) hx hb hr (zq_qi rfl hP hK hD hS) hS.2.2 dL_issue_19

set_option maxHeartbeats 4000000 in
set_option maxRecDepth 100000 in
theorem c_L_back_ok (l : Launch) (dC : Nat → ClassId) (dI : Nat → Nat → Nat) (a : Nat → Nat) (cI cZ cD : ClassId) (ki pl tu le : Nat → Int32) (ch ca : Nat → UInt64) (N : Nat) (tk th hu od : Nat → Int32) (M : Nat) (ti : Int32) (be : Nat → Int32) (clk : Int32) (hN : N ≤ 40) (hM : M ≤ 30) (mi : Nat) (hm : mi < M) (j : Nat) (hj : j < N) (hla : th mi = nI j) (hc : zn_p (ca j)) (cJ : ClassId) (o : Nat) (ou : Nat → Int64) (sz : Nat) : zq_Mi l yL_back wsL_back ({ frames := 3, cells := 0, slots := 0, locals := 64 } : Room) (dC, dI) (zq_T4 cI cZ cD cJ) [.ref (a 0), .int (nI mi), .ref o] (wRl a cI cZ cD cJ o ki pl tu le ch ca (nI N) tk th hu od (nI M) ti be clk ou) 0 (wRl a cI cZ cD cJ o ki (upd pl j 0) (upd tu j (tu j + 1)) (if la_rem (tu j + 1) = 0 then upd le j 1 else le) (if la_gt (ch j) (FP.dmul (ca j) 4606912202822375178) = true then vf_upd ch j (FP.dmul (ca j) 4606912202822375178) else ch) (vf_upd ca j (FP.dmul (ca j) 4606912202822375178)) (nI N) tk (upd th mi (-1)) hu od (nI M) ti (upd (upd be (2 * mi) 0) (2 * mi + 1) 0) clk (vp_updL ou 0 (Int32.toInt64 (clk - hu mi)))) sz := by
  refine va_MetW (cc := cL_back) (maxL := 4) (ret := (some .int)) (by decide) rfl ?_
  intro p e s m args below meth c s₁ B hml hv
  obtain ⟨rfl, hsz, hP, hK, hD0⟩ := hv
  have hx := B.exec
  have hb := B.bytes
  have hr := B.returns
  have hts := atoms_spec (ws := wsL_back) B.pre
  have hown : s.vm.findClass RL = some m.cls := findClass_of_methodNamed B.named
  have hlocks := B.notSynchronized
  subst hsz
  have hD := hD0.self (sz := s.heap.size)
  generalize hAe : va_A (wRl a cI cZ cD cJ o ki pl tu le ch ca (nI N) tk th hu od (nI M) ti be clk ou) s.heap.size = A at hD ⊢
  have hA : ∀ q : Nat, s.heap.size ≤ q → A q := fun q h => by rw [← hAe]; exact Or.inr h
  have hS : va_S A s.heap s.heap [] := va_S.rf
  have hP : va_P (dC, dI) vwCl (wRl a cI cZ cD cJ o ki pl tu le ch ca (nI N) tk th hu od (nI M) ti be clk ou) s.heap := hP
  have hl := lv_entry ([.ref (a 0), .int (nI mi), .ref o]) (n := 4) (Nat.le_of_ble_eq_true rfl)
  rw [lg_entry_eq]
  generalize (lg_sl ([.ref (a 0), .int (nI mi), .ref o]) ++ List.replicate (4 - (lg_sl ([.ref (a 0), .int (nI mi), .ref o])).length) Slot.unset).toArray = ls at hl ⊢
  have hl : lv_has ls 4 [(0, .ref (a 0)), (1, .int (nI mi)), (2, .ref o)] := hl
  have hK3 : va_K (dC, dI) vwCl (zq_T cI cZ cD) s := hK.sub [0, 1, 2] rfl
  refine lv_aload_n hx hb dL_back_0 rfl (lv_at hl 2 rfl) ?_
  refine lv_iconst (v := 0) hx hb dL_back_1 (by decide) ?_
  refine lv_aload_n hx hb dL_back_2 rfl (lv_at hl 0 rfl) ?_
  refine lv_iload_n hx hb dL_back_3 rfl (lv_at hl 1 rfl) ?_
  refine zq_cVi (As := [.int (nI mi)]) (rest := [.int 0, .ref o]) (wc := (wRo a cI cZ cD ki pl tu le ch ca (nI N) tk th hu od (nI M) ti be clk)) (w1 := (wRo a cI cZ cD ki (upd pl j 0) (upd tu j (tu j + 1)) (if la_rem (tu j + 1) = 0 then upd le j 1 else le) (if la_gt (ch j) (FP.dmul (ca j) 4606912202822375178) = true then vf_upd ch j (FP.dmul (ca j) 4606912202822375178) else ch) (vf_upd ca j (FP.dmul (ca j) 4606912202822375178)) (nI N) tk (upd th mi (-1)) hu od (nI M) ti (upd (upd be (2 * mi) 0) (2 * mi + 1) 0) clk)) (wr := [(o, .inl (cJ, 1, .inr (.inl ou)))]) (ws' := (wRl a cI cZ cD cJ o ki (upd pl j 0) (upd tu j (tu j + 1)) (if la_rem (tu j + 1) = 0 then upd le j 1 else le) (if la_gt (ch j) (FP.dmul (ca j) 4606912202822375178) = true then vf_upd ch j (FP.dmul (ca j) 4606912202822375178) else ch) (vf_upd ca j (FP.dmul (ca j) 4606912202822375178)) (nI N) tk (upd th mi (-1)) hu od (nI M) ti (upd (upd be (2 * mi) 0) (2 * mi + 1) 0) clk ou)) ⟨hx, hb, hml, hown, hts⟩ (c_X3_back_ok l dC dI a cI cZ cD ki pl tu le ch ca N tk th hu od M ti be clk (by omega) (by omega) mi (hm) (j) (hj) (hla) (hc) s.heap.size) (cwV 1 hts gL_back_X3_back rfl rfl rfl (by decide +kernel) ⟨Nat.le_of_ble_eq_true rfl, Nat.le_of_ble_eq_true rfl⟩) hK3 hP hD hS hA [0, 1, 2, 3, 4, 5, 6, 7, 8, 9, 10, 11, 12, 13, 14] [15] [1, 2, 3, 4, 5, 6, 7, 8, 9, 10, 11, 12, 13, 14, 15, 0] rfl rfl rfl rfl (by decide) rfl rfl (ci := 3) rfl 0 rfl rfl hl.1 rfl (Nat.le_of_ble_eq_true rfl) dL_back_4 ⟨Nat.zero_le _, Nat.zero_le _⟩ (fun H locs hP hD hS => ?_)
  refine lv_i2l hx hb dL_back_7 rfl ?_
  refine zq_last hx hb hK hP hD hS 15 3 rfl rfl (wRl a cI cZ cD cJ o ki (upd pl j 0) (upd tu j (tu j + 1)) (if la_rem (tu j + 1) = 0 then upd le j 1 else le) (if la_gt (ch j) (FP.dmul (ca j) 4606912202822375178) = true then vf_upd ch j (FP.dmul (ca j) 4606912202822375178) else ch) (vf_upd ca j (FP.dmul (ca j) 4606912202822375178)) (nI N) tk (upd th mi (-1)) hu od (nI M) ti (upd (upd be (2 * mi) 0) (2 * mi + 1) 0) clk (vp_updL ou 0 (Int32.toInt64 (clk - hu mi)))) rfl dL_back_8 (fun H locs hP hD hS => ?_)
  refine lv_goto (tgt := 18) hx hb dL_back_9 (by decide) ?_
  refine lv_iconst (v := 0) hx hb dL_back_18 (by decide) ?_
  exact W.iret (v := 0) hx hb hr (zq_qi rfl hP hK hD hS) hS.2.2 dL_back_19

set_option maxHeartbeats 4000000 in
set_option maxRecDepth 100000 in
theorem c_L_test_ok (l : Launch) (dC : Nat → ClassId) (dI : Nat → Nat → Nat) (a : Nat → Nat) (cI cZ cD : ClassId) (ki pl tu le : Nat → Int32) (ch ca : Nat → UInt64) (N : Nat) (tk th hu od : Nat → Int32) (M : Nat) (ti : Int32) (be : Nat → Int32) (clk : Int32) (hN : N ≤ 40) (hM : M ≤ 30) (j : Nat) (hj : j < N) (hpl : pl j = 0) (cJ : ClassId) (o : Nat) (ou : Nat → Int64) (sz : Nat) : zq_Mi l yL_test wsL_test ({ frames := 3, cells := 0, slots := 0, locals := 63 } : Room) (dC, dI) (zq_T4 cI cZ cD cJ) [.ref (a 0), .int (nI j), .ref o] (wRl a cI cZ cD cJ o ki pl tu le ch ca (nI N) tk th hu od (nI M) ti be clk ou) 0 (wRl a cI cZ cD cJ o ki (if la_fault le ki ca j = 0 then pl else upd pl j 2) tu le ch ca (nI N) tk th hu od (nI M) ti be clk (vp_updL ou 0 (Int32.toInt64 (la_fault le ki ca j)))) sz := by
  refine va_MetW (cc := cL_test) (maxL := 4) (ret := (some .int)) (by decide) rfl ?_
  intro p e s m args below meth c s₁ B hml hv
  obtain ⟨rfl, hsz, hP, hK, hD0⟩ := hv
  have hx := B.exec
  have hb := B.bytes
  have hr := B.returns
  have hts := atoms_spec (ws := wsL_test) B.pre
  have hown : s.vm.findClass RL = some m.cls := findClass_of_methodNamed B.named
  have hlocks := B.notSynchronized
  subst hsz
  have hD := hD0.self (sz := s.heap.size)
  generalize hAe : va_A (wRl a cI cZ cD cJ o ki pl tu le ch ca (nI N) tk th hu od (nI M) ti be clk ou) s.heap.size = A at hD ⊢
  have hA : ∀ q : Nat, s.heap.size ≤ q → A q := fun q h => by rw [← hAe]; exact Or.inr h
  have hS : va_S A s.heap s.heap [] := va_S.rf
  have hP : va_P (dC, dI) vwCl (wRl a cI cZ cD cJ o ki pl tu le ch ca (nI N) tk th hu od (nI M) ti be clk ou) s.heap := hP
  have hl := lv_entry ([.ref (a 0), .int (nI j), .ref o]) (n := 4) (Nat.le_of_ble_eq_true rfl)
  rw [lg_entry_eq]
  generalize (lg_sl ([.ref (a 0), .int (nI j), .ref o]) ++ List.replicate (4 - (lg_sl ([.ref (a 0), .int (nI j), .ref o])).length) Slot.unset).toArray = ls at hl ⊢
  have hl : lv_has ls 4 [(0, .ref (a 0)), (1, .int (nI j)), (2, .ref o)] := hl
  have hK3 : va_K (dC, dI) vwCl (zq_T cI cZ cD) s := hK.sub [0, 1, 2] rfl
  refine lv_aload_n hx hb dL_test_0 rfl (lv_at hl 2 rfl) ?_
  refine lv_iconst (v := 0) hx hb dL_test_1 (by decide) ?_
  refine lv_aload_n hx hb dL_test_2 rfl (lv_at hl 0 rfl) ?_
  refine lv_iload_n hx hb dL_test_3 rfl (lv_at hl 1 rfl) ?_
  refine zq_cVi (As := [.int (nI j)]) (rest := [.int 0, .ref o]) (wc := (wRo a cI cZ cD ki pl tu le ch ca (nI N) tk th hu od (nI M) ti be clk)) (w1 := (wRo a cI cZ cD ki (if la_fault le ki ca j = 0 then pl else upd pl j 2) tu le ch ca (nI N) tk th hu od (nI M) ti be clk)) (wr := [(o, .inl (cJ, 1, .inr (.inl ou)))]) (ws' := (wRl a cI cZ cD cJ o ki (if la_fault le ki ca j = 0 then pl else upd pl j 2) tu le ch ca (nI N) tk th hu od (nI M) ti be clk ou)) ⟨hx, hb, hml, hown, hts⟩ (c_X3_test_ok l dC dI a cI cZ cD ki pl tu le ch ca N tk th hu od M ti be clk (by omega) (by omega) j (hj) (hpl) s.heap.size) (cwV 1 hts gL_test_X3_test rfl rfl rfl (by decide +kernel) ⟨Nat.le_of_ble_eq_true rfl, Nat.le_of_ble_eq_true rfl⟩) hK3 hP hD hS hA [0, 1, 2, 3, 4, 5, 6, 7, 8, 9, 10, 11, 12, 13, 14] [15] [1, 2, 3, 4, 5, 6, 7, 8, 9, 10, 11, 12, 13, 14, 15, 0] rfl rfl rfl rfl (by decide) rfl rfl (ci := 3) rfl 0 rfl rfl hl.1 rfl (Nat.le_of_ble_eq_true rfl) dL_test_4 ⟨Nat.zero_le _, Nat.zero_le _⟩ (fun H locs hP hD hS => ?_)
  refine lv_i2l hx hb dL_test_7 rfl ?_
  refine zq_last hx hb hK hP hD hS 15 3 rfl rfl (wRl a cI cZ cD cJ o ki (if la_fault le ki ca j = 0 then pl else upd pl j 2) tu le ch ca (nI N) tk th hu od (nI M) ti be clk (vp_updL ou 0 (Int32.toInt64 (la_fault le ki ca j)))) rfl dL_test_8 (fun H locs hP hD hS => ?_)
  refine lv_goto (tgt := 18) hx hb dL_test_9 (by decide) ?_
  refine lv_iconst (v := 0) hx hb dL_test_18 (by decide) ?_
  exact W.iret (v := 0) hx hb hr (zq_qi rfl hP hK hD hS) hS.2.2 dL_test_19

set_option maxHeartbeats 4000000 in
set_option maxRecDepth 100000 in
theorem c_L_mend_ok (l : Launch) (dC : Nat → ClassId) (dI : Nat → Nat → Nat) (a : Nat → Nat) (cI cZ cD : ClassId) (ki pl tu le : Nat → Int32) (ch ca : Nat → UInt64) (N : Nat) (tk th hu od : Nat → Int32) (M : Nat) (ti : Int32) (be : Nat → Int32) (clk : Int32) (hN : N ≤ 40) (hM : M ≤ 30) (j : Nat) (hj : j < N) (hpl : pl j = 2) (cJ : ClassId) (o : Nat) (ou : Nat → Int64) (sz : Nat) : zq_Mi l yL_mend wsL_mend ({ frames := 3, cells := 0, slots := 0, locals := 63 } : Room) (dC, dI) (zq_T4 cI cZ cD cJ) [.ref (a 0), .int (nI j), .ref o] (wRl a cI cZ cD cJ o ki pl tu le ch ca (nI N) tk th hu od (nI M) ti be clk ou) 0 (wRl a cI cZ cD cJ o ki (upd pl j (if la_weak ki ca j = true then 3 else 0)) tu (upd le j 0) ch ca (nI N) tk th hu od (nI M) ti be clk (vp_updL ou 0 (if la_weak ki ca j = true then 0 else 1))) sz := by
  refine va_MetW (cc := cL_mend) (maxL := 4) (ret := (some .int)) (by decide) rfl ?_
  intro p e s m args below meth c s₁ B hml hv
  obtain ⟨rfl, hsz, hP, hK, hD0⟩ := hv
  have hx := B.exec
  have hb := B.bytes
  have hr := B.returns
  have hts := atoms_spec (ws := wsL_mend) B.pre
  have hown : s.vm.findClass RL = some m.cls := findClass_of_methodNamed B.named
  have hlocks := B.notSynchronized
  subst hsz
  have hD := hD0.self (sz := s.heap.size)
  generalize hAe : va_A (wRl a cI cZ cD cJ o ki pl tu le ch ca (nI N) tk th hu od (nI M) ti be clk ou) s.heap.size = A at hD ⊢
  have hA : ∀ q : Nat, s.heap.size ≤ q → A q := fun q h => by rw [← hAe]; exact Or.inr h
  have hS : va_S A s.heap s.heap [] := va_S.rf
  have hP : va_P (dC, dI) vwCl (wRl a cI cZ cD cJ o ki pl tu le ch ca (nI N) tk th hu od (nI M) ti be clk ou) s.heap := hP
  have hl := lv_entry ([.ref (a 0), .int (nI j), .ref o]) (n := 4) (Nat.le_of_ble_eq_true rfl)
  rw [lg_entry_eq]
  generalize (lg_sl ([.ref (a 0), .int (nI j), .ref o]) ++ List.replicate (4 - (lg_sl ([.ref (a 0), .int (nI j), .ref o])).length) Slot.unset).toArray = ls at hl ⊢
  have hl : lv_has ls 4 [(0, .ref (a 0)), (1, .int (nI j)), (2, .ref o)] := hl
  have hK3 : va_K (dC, dI) vwCl (zq_T cI cZ cD) s := hK.sub [0, 1, 2] rfl
  refine lv_aload_n hx hb dL_mend_0 rfl (lv_at hl 2 rfl) ?_
  refine lv_iconst (v := 0) hx hb dL_mend_1 (by decide) ?_
  refine lv_aload_n hx hb dL_mend_2 rfl (lv_at hl 0 rfl) ?_
  refine lv_iload_n hx hb dL_mend_3 rfl (lv_at hl 1 rfl) ?_
  refine zq_cVi (As := [.int (nI j)]) (rest := [.int 0, .ref o]) (wc := (wRo a cI cZ cD ki pl tu le ch ca (nI N) tk th hu od (nI M) ti be clk)) (w1 := (wRo a cI cZ cD ki (upd pl j (if la_weak ki ca j = true then 3 else 0)) tu (upd le j 0) ch ca (nI N) tk th hu od (nI M) ti be clk)) (wr := [(o, .inl (cJ, 1, .inr (.inl ou)))]) (ws' := (wRl a cI cZ cD cJ o ki (upd pl j (if la_weak ki ca j = true then 3 else 0)) tu (upd le j 0) ch ca (nI N) tk th hu od (nI M) ti be clk ou)) ⟨hx, hb, hml, hown, hts⟩ (c_X3_mend_ok l dC dI a cI cZ cD ki pl tu le ch ca N tk th hu od M ti be clk (by omega) (by omega) j (hj) (hpl) s.heap.size) (cwV 1 hts gL_mend_X3_mend rfl rfl rfl (by decide +kernel) ⟨Nat.le_of_ble_eq_true rfl, Nat.le_of_ble_eq_true rfl⟩) hK3 hP hD hS hA [0, 1, 2, 3, 4, 5, 6, 7, 8, 9, 10, 11, 12, 13, 14] [15] [1, 2, 3, 4, 5, 6, 7, 8, 9, 10, 11, 12, 13, 14, 15, 0] rfl rfl rfl rfl (by decide) rfl rfl (ci := 3) rfl 0 rfl rfl hl.1 rfl (Nat.le_of_ble_eq_true rfl) dL_mend_4 ⟨Nat.zero_le _, Nat.zero_le _⟩ (fun H locs hP hD hS => ?_)
  refine lv_if_eq (tgt := 14) hx hb dL_mend_7 (by decide) (fun c_0 => ?_) (fun c_0 => ?_)
  · have d_0 := zb_eq c_0
    simp at d_0
    refine lv_lconst (v := 0) hx hb dL_mend_14 (by decide) ?_
    refine zq_last hx hb hK hP hD hS 15 3 rfl rfl (wRl a cI cZ cD cJ o ki (upd pl j (if la_weak ki ca j = true then 3 else 0)) tu (upd le j 0) ch ca (nI N) tk th hu od (nI M) ti be clk (vp_updL ou 0 0)) rfl dL_mend_15 (fun H locs hP hD hS => ?_)
    refine lv_goto (tgt := 25) hx hb dL_mend_16 (by decide) ?_
    refine lv_iconst (v := 0) hx hb dL_mend_25 (by decide) ?_
    have e_1 : (vp_updL ou 0 (if la_weak ki ca j = true then 0 else 1)) = (vp_updL ou 0 0) := by first | with_reducible rfl | simp [d_0]
    exact W.iret (v := 0) hx hb hr (zq_qi rfl (by rw [e_1]; exact hP) hK (by rw [e_1]; exact hD) hS) hS.2.2 dL_mend_26
  · have d_0 := zb_ne c_0
    simp at d_0
    refine lv_lconst (v := 1) hx hb dL_mend_10 (by decide) ?_
    refine lv_goto (tgt := 15) hx hb dL_mend_11 (by decide) ?_
    refine zq_last hx hb hK hP hD hS 15 3 rfl rfl (wRl a cI cZ cD cJ o ki (upd pl j (if la_weak ki ca j = true then 3 else 0)) tu (upd le j 0) ch ca (nI N) tk th hu od (nI M) ti be clk (vp_updL ou 0 1)) rfl dL_mend_15 (fun H locs hP hD hS => ?_)
    refine lv_goto (tgt := 25) hx hb dL_mend_16 (by decide) ?_
    refine lv_iconst (v := 0) hx hb dL_mend_25 (by decide) ?_
    have e_2 : (vp_updL ou 0 (if la_weak ki ca j = true then 0 else 1)) = (vp_updL ou 0 1) := by first | with_reducible rfl | simp [d_0]
    exact W.iret (v := 0) hx hb hr (zq_qi rfl (by rw [e_2]; exact hP) hK (by rw [e_2]; exact hD) hS) hS.2.2 dL_mend_26

set_option maxHeartbeats 4000000 in
set_option maxRecDepth 100000 in
theorem c_L_hours_ok (l : Launch) (dC : Nat → ClassId) (dI : Nat → Nat → Nat) (a : Nat → Nat) (cI cZ cD : ClassId) (ki pl tu le : Nat → Int32) (ch ca : Nat → UInt64) (N : Nat) (tk th hu od : Nat → Int32) (M : Nat) (ti : Int32) (be : Nat → Int32) (clk : Int32) (hN : N ≤ 40) (hM : M ≤ 30) (n : Nat) (h1 : 1 ≤ n) (h2 : n ≤ 100) (hp : ∀ i, i < 40 → zn_p (ch i)) (hc : ∀ i, i < 40 → zn_p (ca i)) (hlm : ∀ mi, mi < M → ¬ th mi = -1 → ∃ j, j < N ∧ th mi = nI j) (cJ : ClassId) (o : Nat) (ou : Nat → Int64) (sz : Nat) : zq_Mi l yL_hours wsL_hours ({ frames := 4, cells := 0, slots := 0, locals := 93 } : Room) (dC, dI) (zq_T4 cI cZ cD cJ) [.ref (a 0), .int (nI n), .ref o] (wRl a cI cZ cD cJ o ki pl tu le ch ca (nI N) tk th hu od (nI M) ti be clk ou) 0 (wRl a cI cZ cD cJ o ki pl tu le ((ho_k pl le ca th hu N M ch clk be n).1.1) ca (nI N) tk th hu od (nI M) ti ((ho_k pl le ca th hu N M ch clk be n).2.1) ((ho_k pl le ca th hu N M ch clk be n).1.2) (vp_updL ou 0 (Int32.toInt64 (nI (ho_k pl le ca th hu N M ch clk be n).2.2)))) sz := by
  refine va_MetW (cc := cL_hours) (maxL := 4) (ret := (some .int)) (by decide) rfl ?_
  intro p e s m args below meth c s₁ B hml hv
  obtain ⟨rfl, hsz, hP, hK, hD0⟩ := hv
  have hx := B.exec
  have hb := B.bytes
  have hr := B.returns
  have hts := atoms_spec (ws := wsL_hours) B.pre
  have hown : s.vm.findClass RL = some m.cls := findClass_of_methodNamed B.named
  have hlocks := B.notSynchronized
  subst hsz
  have hD := hD0.self (sz := s.heap.size)
  generalize hAe : va_A (wRl a cI cZ cD cJ o ki pl tu le ch ca (nI N) tk th hu od (nI M) ti be clk ou) s.heap.size = A at hD ⊢
  have hA : ∀ q : Nat, s.heap.size ≤ q → A q := fun q h => by rw [← hAe]; exact Or.inr h
  have hS : va_S A s.heap s.heap [] := va_S.rf
  have hP : va_P (dC, dI) vwCl (wRl a cI cZ cD cJ o ki pl tu le ch ca (nI N) tk th hu od (nI M) ti be clk ou) s.heap := hP
  have hl := lv_entry ([.ref (a 0), .int (nI n), .ref o]) (n := 4) (Nat.le_of_ble_eq_true rfl)
  rw [lg_entry_eq]
  generalize (lg_sl ([.ref (a 0), .int (nI n), .ref o]) ++ List.replicate (4 - (lg_sl ([.ref (a 0), .int (nI n), .ref o])).length) Slot.unset).toArray = ls at hl ⊢
  have hl : lv_has ls 4 [(0, .ref (a 0)), (1, .int (nI n)), (2, .ref o)] := hl
  have hK3 : va_K (dC, dI) vwCl (zq_T cI cZ cD) s := hK.sub [0, 1, 2] rfl
  refine lv_aload_n hx hb dL_hours_0 rfl (lv_at hl 2 rfl) ?_
  refine lv_iconst (v := 0) hx hb dL_hours_1 (by decide) ?_
  refine lv_aload_n hx hb dL_hours_2 rfl (lv_at hl 0 rfl) ?_
  refine lv_iload_n hx hb dL_hours_3 rfl (lv_at hl 1 rfl) ?_
  refine zq_cVi (As := [.int (nI n)]) (rest := [.int 0, .ref o]) (wc := (wRo a cI cZ cD ki pl tu le ch ca (nI N) tk th hu od (nI M) ti be clk)) (w1 := (wRo a cI cZ cD ki pl tu le ((ho_k pl le ca th hu N M ch clk be n).1.1) ca (nI N) tk th hu od (nI M) ti ((ho_k pl le ca th hu N M ch clk be n).2.1) ((ho_k pl le ca th hu N M ch clk be n).1.2))) (wr := [(o, .inl (cJ, 1, .inr (.inl ou)))]) (ws' := (wRl a cI cZ cD cJ o ki pl tu le ((ho_k pl le ca th hu N M ch clk be n).1.1) ca (nI N) tk th hu od (nI M) ti ((ho_k pl le ca th hu N M ch clk be n).2.1) ((ho_k pl le ca th hu N M ch clk be n).1.2) ou)) ⟨hx, hb, hml, hown, hts⟩ (c_X3_hours_ok l dC dI a cI cZ cD ki pl tu le ch ca N tk th hu od M ti be clk (by omega) (by omega) n (h1) (h2) (hp) (hc) (hlm) s.heap.size) (cwV 1 hts gL_hours_X3_hours rfl rfl rfl (by decide +kernel) ⟨Nat.le_of_ble_eq_true rfl, Nat.le_of_ble_eq_true rfl⟩) hK3 hP hD hS hA [0, 1, 2, 3, 4, 5, 6, 7, 8, 9, 10, 11, 12, 13, 14] [15] [1, 2, 3, 4, 5, 6, 7, 8, 9, 10, 11, 12, 13, 14, 15, 0] rfl rfl rfl rfl (by decide) rfl rfl (ci := 3) rfl 0 rfl rfl hl.1 rfl (Nat.le_of_ble_eq_true rfl) dL_hours_4 ⟨Nat.zero_le _, Nat.zero_le _⟩ (fun H locs hP hD hS => ?_)
  refine lv_i2l hx hb dL_hours_7 rfl ?_
  refine zq_last hx hb hK hP hD hS 15 3 rfl rfl (wRl a cI cZ cD cJ o ki pl tu le ((ho_k pl le ca th hu N M ch clk be n).1.1) ca (nI N) tk th hu od (nI M) ti ((ho_k pl le ca th hu N M ch clk be n).2.1) ((ho_k pl le ca th hu N M ch clk be n).1.2) (vp_updL ou 0 (Int32.toInt64 (nI (ho_k pl le ca th hu N M ch clk be n).2.2)))) rfl dL_hours_8 (fun H locs hP hD hS => ?_)
  refine lv_goto (tgt := 15) hx hb dL_hours_9 (by decide) ?_
  refine lv_iconst (v := 0) hx hb dL_hours_15 (by decide) ?_
  exact W.iret (v := 0) hx hb hr (zq_qi rfl hP hK hD hS) hS.2.2 dL_hours_16

set_option maxHeartbeats 4000000 in
set_option maxRecDepth 100000 in
theorem c_L_lampOf_ok (l : Launch) (dC : Nat → ClassId) (dI : Nat → Nat → Nat) (a : Nat → Nat) (cI cZ cD : ClassId) (ki pl tu le : Nat → Int32) (ch ca : Nat → UInt64) (N : Nat) (tk th hu od : Nat → Int32) (M : Nat) (ti : Int32) (be : Nat → Int32) (clk : Int32) (hN : N ≤ 40) (hM : M ≤ 30) (mi : Nat) (hm : mi < M) (cJ : ClassId) (o : Nat) (ou : Nat → Int64) (sz : Nat) : zq_Mi l yL_lampOf wsL_lampOf ({ frames := 3, cells := 0, slots := 0, locals := 62 } : Room) (dC, dI) (zq_T4 cI cZ cD cJ) [.ref (a 0), .int (nI mi), .ref o] (wRl a cI cZ cD cJ o ki pl tu le ch ca (nI N) tk th hu od (nI M) ti be clk ou) 0 (wRl a cI cZ cD cJ o ki pl tu le ch ca (nI N) tk th hu od (nI M) ti be clk (vp_updL ou 0 (Int32.toInt64 (th mi)))) sz := by
  refine va_MetW (cc := cL_lampOf) (maxL := 4) (ret := (some .int)) (by decide) rfl ?_
  intro p e s m args below meth c s₁ B hml hv
  obtain ⟨rfl, hsz, hP, hK, hD0⟩ := hv
  have hx := B.exec
  have hb := B.bytes
  have hr := B.returns
  have hts := atoms_spec (ws := wsL_lampOf) B.pre
  have hown : s.vm.findClass RL = some m.cls := findClass_of_methodNamed B.named
  have hlocks := B.notSynchronized
  subst hsz
  have hD := hD0.self (sz := s.heap.size)
  generalize hAe : va_A (wRl a cI cZ cD cJ o ki pl tu le ch ca (nI N) tk th hu od (nI M) ti be clk ou) s.heap.size = A at hD ⊢
  have hA : ∀ q : Nat, s.heap.size ≤ q → A q := fun q h => by rw [← hAe]; exact Or.inr h
  have hS : va_S A s.heap s.heap [] := va_S.rf
  have hP : va_P (dC, dI) vwCl (wRl a cI cZ cD cJ o ki pl tu le ch ca (nI N) tk th hu od (nI M) ti be clk ou) s.heap := hP
  have hl := lv_entry ([.ref (a 0), .int (nI mi), .ref o]) (n := 4) (Nat.le_of_ble_eq_true rfl)
  rw [lg_entry_eq]
  generalize (lg_sl ([.ref (a 0), .int (nI mi), .ref o]) ++ List.replicate (4 - (lg_sl ([.ref (a 0), .int (nI mi), .ref o])).length) Slot.unset).toArray = ls at hl ⊢
  have hl : lv_has ls 4 [(0, .ref (a 0)), (1, .int (nI mi)), (2, .ref o)] := hl
  have hK3 : va_K (dC, dI) vwCl (zq_T cI cZ cD) s := hK.sub [0, 1, 2] rfl
  refine lv_aload_n hx hb dL_lampOf_0 rfl (lv_at hl 2 rfl) ?_
  refine lv_iconst (v := 0) hx hb dL_lampOf_1 (by decide) ?_
  refine lv_aload_n hx hb dL_lampOf_2 rfl (lv_at hl 0 rfl) ?_
  refine lv_iload_n hx hb dL_lampOf_3 rfl (lv_at hl 1 rfl) ?_
  refine zq_cVi (As := [.int (nI mi)]) (rest := [.int 0, .ref o]) (wc := (wRo a cI cZ cD ki pl tu le ch ca (nI N) tk th hu od (nI M) ti be clk)) (w1 := (wRo a cI cZ cD ki pl tu le ch ca (nI N) tk th hu od (nI M) ti be clk)) (wr := [(o, .inl (cJ, 1, .inr (.inl ou)))]) (ws' := (wRl a cI cZ cD cJ o ki pl tu le ch ca (nI N) tk th hu od (nI M) ti be clk ou)) ⟨hx, hb, hml, hown, hts⟩ (c_X3_lampOf_ok l dC dI a cI cZ cD ki pl tu le ch ca N tk th hu od M ti be clk (by omega) (by omega) mi (hm) s.heap.size) (cwV 1 hts gL_lampOf_X3_lampOf rfl rfl rfl (by decide +kernel) ⟨Nat.le_of_ble_eq_true rfl, Nat.le_of_ble_eq_true rfl⟩) hK3 hP hD hS hA [0, 1, 2, 3, 4, 5, 6, 7, 8, 9, 10, 11, 12, 13, 14] [15] [1, 2, 3, 4, 5, 6, 7, 8, 9, 10, 11, 12, 13, 14, 15, 0] rfl rfl rfl rfl (by decide) rfl rfl (ci := 3) rfl 0 rfl rfl hl.1 rfl (Nat.le_of_ble_eq_true rfl) dL_lampOf_4 ⟨Nat.zero_le _, Nat.zero_le _⟩ (fun H locs hP hD hS => ?_)
  refine lv_i2l hx hb dL_lampOf_7 rfl ?_
  refine zq_last hx hb hK hP hD hS 15 3 rfl rfl (wRl a cI cZ cD cJ o ki pl tu le ch ca (nI N) tk th hu od (nI M) ti be clk (vp_updL ou 0 (Int32.toInt64 (th mi)))) rfl dL_lampOf_8 (fun H locs hP hD hS => ?_)
  refine lv_goto (tgt := 15) hx hb dL_lampOf_9 (by decide) ?_
  refine lv_iconst (v := 0) hx hb dL_lampOf_15 (by decide) ?_
  exact W.iret (v := 0) hx hb hr (zq_qi rfl hP hK hD hS) hS.2.2 dL_lampOf_16

set_option maxHeartbeats 4000000 in
set_option maxRecDepth 100000 in
theorem c_L_hoursBelow_ok (l : Launch) (dC : Nat → ClassId) (dI : Nat → Nat → Nat) (a : Nat → Nat) (cI cZ cD : ClassId) (ki pl tu le : Nat → Int32) (ch ca : Nat → UInt64) (N : Nat) (tk th hu od : Nat → Int32) (M : Nat) (ti : Int32) (be : Nat → Int32) (clk : Int32) (hN : N ≤ 40) (hM : M ≤ 30) (mi : Nat) (hm : mi < M) (cJ : ClassId) (o : Nat) (ou : Nat → Int64) (sz : Nat) : zq_Mi l yL_hoursBelow wsL_hoursBelow ({ frames := 3, cells := 0, slots := 0, locals := 62 } : Room) (dC, dI) (zq_T4 cI cZ cD cJ) [.ref (a 0), .int (nI mi), .ref o] (wRl a cI cZ cD cJ o ki pl tu le ch ca (nI N) tk th hu od (nI M) ti be clk ou) 0 (wRl a cI cZ cD cJ o ki pl tu le ch ca (nI N) tk th hu od (nI M) ti be clk (vp_updL ou 0 (Int32.toInt64 (if th mi = -1 then -1 else clk - hu mi)))) sz := by
  refine va_MetW (cc := cL_hoursBelow) (maxL := 4) (ret := (some .int)) (by decide) rfl ?_
  intro p e s m args below meth c s₁ B hml hv
  obtain ⟨rfl, hsz, hP, hK, hD0⟩ := hv
  have hx := B.exec
  have hb := B.bytes
  have hr := B.returns
  have hts := atoms_spec (ws := wsL_hoursBelow) B.pre
  have hown : s.vm.findClass RL = some m.cls := findClass_of_methodNamed B.named
  have hlocks := B.notSynchronized
  subst hsz
  have hD := hD0.self (sz := s.heap.size)
  generalize hAe : va_A (wRl a cI cZ cD cJ o ki pl tu le ch ca (nI N) tk th hu od (nI M) ti be clk ou) s.heap.size = A at hD ⊢
  have hA : ∀ q : Nat, s.heap.size ≤ q → A q := fun q h => by rw [← hAe]; exact Or.inr h
  have hS : va_S A s.heap s.heap [] := va_S.rf
  have hP : va_P (dC, dI) vwCl (wRl a cI cZ cD cJ o ki pl tu le ch ca (nI N) tk th hu od (nI M) ti be clk ou) s.heap := hP
  have hl := lv_entry ([.ref (a 0), .int (nI mi), .ref o]) (n := 4) (Nat.le_of_ble_eq_true rfl)
  rw [lg_entry_eq]
  generalize (lg_sl ([.ref (a 0), .int (nI mi), .ref o]) ++ List.replicate (4 - (lg_sl ([.ref (a 0), .int (nI mi), .ref o])).length) Slot.unset).toArray = ls at hl ⊢
  have hl : lv_has ls 4 [(0, .ref (a 0)), (1, .int (nI mi)), (2, .ref o)] := hl
  have hK3 : va_K (dC, dI) vwCl (zq_T cI cZ cD) s := hK.sub [0, 1, 2] rfl
  refine lv_aload_n hx hb dL_hoursBelow_0 rfl (lv_at hl 2 rfl) ?_
  refine lv_iconst (v := 0) hx hb dL_hoursBelow_1 (by decide) ?_
  refine lv_aload_n hx hb dL_hoursBelow_2 rfl (lv_at hl 0 rfl) ?_
  refine lv_iload_n hx hb dL_hoursBelow_3 rfl (lv_at hl 1 rfl) ?_
  refine zq_cVi (As := [.int (nI mi)]) (rest := [.int 0, .ref o]) (wc := (wRo a cI cZ cD ki pl tu le ch ca (nI N) tk th hu od (nI M) ti be clk)) (w1 := (wRo a cI cZ cD ki pl tu le ch ca (nI N) tk th hu od (nI M) ti be clk)) (wr := [(o, .inl (cJ, 1, .inr (.inl ou)))]) (ws' := (wRl a cI cZ cD cJ o ki pl tu le ch ca (nI N) tk th hu od (nI M) ti be clk ou)) ⟨hx, hb, hml, hown, hts⟩ (c_X3_hoursBelow_ok l dC dI a cI cZ cD ki pl tu le ch ca N tk th hu od M ti be clk (by omega) (by omega) mi (hm) s.heap.size) (cwV 1 hts gL_hoursBelow_X3_hoursBelow rfl rfl rfl (by decide +kernel) ⟨Nat.le_of_ble_eq_true rfl, Nat.le_of_ble_eq_true rfl⟩) hK3 hP hD hS hA [0, 1, 2, 3, 4, 5, 6, 7, 8, 9, 10, 11, 12, 13, 14] [15] [1, 2, 3, 4, 5, 6, 7, 8, 9, 10, 11, 12, 13, 14, 15, 0] rfl rfl rfl rfl (by decide) rfl rfl (ci := 3) rfl 0 rfl rfl hl.1 rfl (Nat.le_of_ble_eq_true rfl) dL_hoursBelow_4 ⟨Nat.zero_le _, Nat.zero_le _⟩ (fun H locs hP hD hS => ?_)
  refine lv_i2l hx hb dL_hoursBelow_7 rfl ?_
  refine zq_last hx hb hK hP hD hS 15 3 rfl rfl (wRl a cI cZ cD cJ o ki pl tu le ch ca (nI N) tk th hu od (nI M) ti be clk (vp_updL ou 0 (Int32.toInt64 (if th mi = -1 then -1 else clk - hu mi)))) rfl dL_hoursBelow_8 (fun H locs hP hD hS => ?_)
  refine lv_goto (tgt := 15) hx hb dL_hoursBelow_9 (by decide) ?_
  refine lv_iconst (v := 0) hx hb dL_hoursBelow_15 (by decide) ?_
  exact W.iret (v := 0) hx hb hr (zq_qi rfl hP hK hD hS) hS.2.2 dL_hoursBelow_16

set_option maxHeartbeats 4000000 in
set_option maxRecDepth 100000 in
theorem c_L_placeOf_ok (l : Launch) (dC : Nat → ClassId) (dI : Nat → Nat → Nat) (a : Nat → Nat) (cI cZ cD : ClassId) (ki pl tu le : Nat → Int32) (ch ca : Nat → UInt64) (N : Nat) (tk th hu od : Nat → Int32) (M : Nat) (ti : Int32) (be : Nat → Int32) (clk : Int32) (hN : N ≤ 40) (hM : M ≤ 30) (j : Nat) (hj : j < N) (cJ : ClassId) (o : Nat) (ou : Nat → Int64) (sz : Nat) : zq_Mi l yL_placeOf wsL_placeOf ({ frames := 3, cells := 0, slots := 0, locals := 62 } : Room) (dC, dI) (zq_T4 cI cZ cD cJ) [.ref (a 0), .int (nI j), .ref o] (wRl a cI cZ cD cJ o ki pl tu le ch ca (nI N) tk th hu od (nI M) ti be clk ou) 0 (wRl a cI cZ cD cJ o ki pl tu le ch ca (nI N) tk th hu od (nI M) ti be clk (vp_updL ou 0 (Int32.toInt64 (pl j)))) sz := by
  refine va_MetW (cc := cL_placeOf) (maxL := 4) (ret := (some .int)) (by decide) rfl ?_
  intro p e s m args below meth c s₁ B hml hv
  obtain ⟨rfl, hsz, hP, hK, hD0⟩ := hv
  have hx := B.exec
  have hb := B.bytes
  have hr := B.returns
  have hts := atoms_spec (ws := wsL_placeOf) B.pre
  have hown : s.vm.findClass RL = some m.cls := findClass_of_methodNamed B.named
  have hlocks := B.notSynchronized
  subst hsz
  have hD := hD0.self (sz := s.heap.size)
  generalize hAe : va_A (wRl a cI cZ cD cJ o ki pl tu le ch ca (nI N) tk th hu od (nI M) ti be clk ou) s.heap.size = A at hD ⊢
  have hA : ∀ q : Nat, s.heap.size ≤ q → A q := fun q h => by rw [← hAe]; exact Or.inr h
  have hS : va_S A s.heap s.heap [] := va_S.rf
  have hP : va_P (dC, dI) vwCl (wRl a cI cZ cD cJ o ki pl tu le ch ca (nI N) tk th hu od (nI M) ti be clk ou) s.heap := hP
  have hl := lv_entry ([.ref (a 0), .int (nI j), .ref o]) (n := 4) (Nat.le_of_ble_eq_true rfl)
  rw [lg_entry_eq]
  generalize (lg_sl ([.ref (a 0), .int (nI j), .ref o]) ++ List.replicate (4 - (lg_sl ([.ref (a 0), .int (nI j), .ref o])).length) Slot.unset).toArray = ls at hl ⊢
  have hl : lv_has ls 4 [(0, .ref (a 0)), (1, .int (nI j)), (2, .ref o)] := hl
  have hK3 : va_K (dC, dI) vwCl (zq_T cI cZ cD) s := hK.sub [0, 1, 2] rfl
  refine lv_aload_n hx hb dL_placeOf_0 rfl (lv_at hl 2 rfl) ?_
  refine lv_iconst (v := 0) hx hb dL_placeOf_1 (by decide) ?_
  refine lv_aload_n hx hb dL_placeOf_2 rfl (lv_at hl 0 rfl) ?_
  refine lv_iload_n hx hb dL_placeOf_3 rfl (lv_at hl 1 rfl) ?_
  refine zq_cVi (As := [.int (nI j)]) (rest := [.int 0, .ref o]) (wc := (wRo a cI cZ cD ki pl tu le ch ca (nI N) tk th hu od (nI M) ti be clk)) (w1 := (wRo a cI cZ cD ki pl tu le ch ca (nI N) tk th hu od (nI M) ti be clk)) (wr := [(o, .inl (cJ, 1, .inr (.inl ou)))]) (ws' := (wRl a cI cZ cD cJ o ki pl tu le ch ca (nI N) tk th hu od (nI M) ti be clk ou)) ⟨hx, hb, hml, hown, hts⟩ (c_X3_placeOf_ok l dC dI a cI cZ cD ki pl tu le ch ca N tk th hu od M ti be clk (by omega) (by omega) j (hj) s.heap.size) (cwV 1 hts gL_placeOf_X3_placeOf rfl rfl rfl (by decide +kernel) ⟨Nat.le_of_ble_eq_true rfl, Nat.le_of_ble_eq_true rfl⟩) hK3 hP hD hS hA [0, 1, 2, 3, 4, 5, 6, 7, 8, 9, 10, 11, 12, 13, 14] [15] [1, 2, 3, 4, 5, 6, 7, 8, 9, 10, 11, 12, 13, 14, 15, 0] rfl rfl rfl rfl (by decide) rfl rfl (ci := 3) rfl 0 rfl rfl hl.1 rfl (Nat.le_of_ble_eq_true rfl) dL_placeOf_4 ⟨Nat.zero_le _, Nat.zero_le _⟩ (fun H locs hP hD hS => ?_)
  refine lv_i2l hx hb dL_placeOf_7 rfl ?_
  refine zq_last hx hb hK hP hD hS 15 3 rfl rfl (wRl a cI cZ cD cJ o ki pl tu le ch ca (nI N) tk th hu od (nI M) ti be clk (vp_updL ou 0 (Int32.toInt64 (pl j)))) rfl dL_placeOf_8 (fun H locs hP hD hS => ?_)
  refine lv_goto (tgt := 15) hx hb dL_placeOf_9 (by decide) ?_
  refine lv_iconst (v := 0) hx hb dL_placeOf_15 (by decide) ?_
  exact W.iret (v := 0) hx hb hr (zq_qi rfl hP hK hD hS) hS.2.2 dL_placeOf_16

set_option maxHeartbeats 4000000 in
set_option maxRecDepth 100000 in
theorem c_L_chargeOf_ok (l : Launch) (dC : Nat → ClassId) (dI : Nat → Nat → Nat) (a : Nat → Nat) (cI cZ cD : ClassId) (ki pl tu le : Nat → Int32) (ch ca : Nat → UInt64) (N : Nat) (tk th hu od : Nat → Int32) (M : Nat) (ti : Int32) (be : Nat → Int32) (clk : Int32) (hN : N ≤ 40) (hM : M ≤ 30) (j : Nat) (hj : j < N) (o : Nat) (od2 : Nat → UInt64) (sz : Nat) : zq_Mi l yL_chargeOf wsL_chargeOf ({ frames := 3, cells := 0, slots := 0, locals := 62 } : Room) (dC, dI) (zq_T cI cZ cD) [.ref (a 0), .int (nI j), .ref o] (wRd a cI cZ cD o ki pl tu le ch ca (nI N) tk th hu od (nI M) ti be clk od2) 0 (wRd a cI cZ cD o ki pl tu le ch ca (nI N) tk th hu od (nI M) ti be clk (vf_upd od2 0 (ch j))) sz := by
  refine va_MetW (cc := cL_chargeOf) (maxL := 4) (ret := (some .int)) (by decide) rfl ?_
  intro p e s m args below meth c s₁ B hml hv
  obtain ⟨rfl, hsz, hP, hK, hD0⟩ := hv
  have hx := B.exec
  have hb := B.bytes
  have hr := B.returns
  have hts := atoms_spec (ws := wsL_chargeOf) B.pre
  have hown : s.vm.findClass RL = some m.cls := findClass_of_methodNamed B.named
  have hlocks := B.notSynchronized
  subst hsz
  have hD := hD0.self (sz := s.heap.size)
  generalize hAe : va_A (wRd a cI cZ cD o ki pl tu le ch ca (nI N) tk th hu od (nI M) ti be clk od2) s.heap.size = A at hD ⊢
  have hA : ∀ q : Nat, s.heap.size ≤ q → A q := fun q h => by rw [← hAe]; exact Or.inr h
  have hS : va_S A s.heap s.heap [] := va_S.rf
  have hP : va_P (dC, dI) vwCl (wRd a cI cZ cD o ki pl tu le ch ca (nI N) tk th hu od (nI M) ti be clk od2) s.heap := hP
  have hl := lv_entry ([.ref (a 0), .int (nI j), .ref o]) (n := 4) (Nat.le_of_ble_eq_true rfl)
  rw [lg_entry_eq]
  generalize (lg_sl ([.ref (a 0), .int (nI j), .ref o]) ++ List.replicate (4 - (lg_sl ([.ref (a 0), .int (nI j), .ref o])).length) Slot.unset).toArray = ls at hl ⊢
  have hl : lv_has ls 4 [(0, .ref (a 0)), (1, .int (nI j)), (2, .ref o)] := hl
  refine lv_aload_n hx hb dL_chargeOf_0 rfl (lv_at hl 2 rfl) ?_
  refine lv_iconst (v := 0) hx hb dL_chargeOf_1 (by decide) ?_
  refine lv_aload_n hx hb dL_chargeOf_2 rfl (lv_at hl 0 rfl) ?_
  refine lv_iload_n hx hb dL_chargeOf_3 rfl (lv_at hl 1 rfl) ?_
  refine zq_cVd (As := [.int (nI j)]) (rest := [.int 0, .ref o]) (wc := (wRo a cI cZ cD ki pl tu le ch ca (nI N) tk th hu od (nI M) ti be clk)) (w1 := (wRo a cI cZ cD ki pl tu le ch ca (nI N) tk th hu od (nI M) ti be clk)) (wr := [(o, .inl (cD, 1, .inr (.inr (.inr (.inl od2)))))]) (ws' := (wRd a cI cZ cD o ki pl tu le ch ca (nI N) tk th hu od (nI M) ti be clk od2)) ⟨hx, hb, hml, hown, hts⟩ (c_X3_chargeOf_ok l dC dI a cI cZ cD ki pl tu le ch ca N tk th hu od M ti be clk (by omega) (by omega) j (hj) s.heap.size) (cwV 1 hts gL_chargeOf_X3_chargeOf rfl rfl rfl (by decide +kernel) ⟨Nat.le_of_ble_eq_true rfl, Nat.le_of_ble_eq_true rfl⟩) hK hP hD hS hA [0, 1, 2, 3, 4, 5, 6, 7, 8, 9, 10, 11, 12, 13, 14] [15] [1, 2, 3, 4, 5, 6, 7, 8, 9, 10, 11, 12, 13, 14, 15, 0] rfl rfl rfl rfl (by decide) rfl rfl (ci := 3) rfl 0 rfl rfl hl.1 rfl (Nat.le_of_ble_eq_true rfl) dL_chargeOf_4 ⟨Nat.zero_le _, Nat.zero_le _⟩ (fun H locs hP hD hS => ?_)
  refine zq_dast hx hb hK hP hD hS 15 2 rfl rfl (j := 0) (by omega) (by decide) (wRd a cI cZ cD o ki pl tu le ch ca (nI N) tk th hu od (nI M) ti be clk (vf_upd od2 0 (ch j))) rfl dL_chargeOf_7 (fun H locs hP hD hS => ?_)
  refine lv_goto (tgt := 14) hx hb dL_chargeOf_8 (by decide) ?_
  refine lv_iconst (v := 0) hx hb dL_chargeOf_14 (by decide) ?_
  exact W.iret (v := 0) hx hb hr (zq_qi rfl hP hK hD hS) hS.2.2 dL_chargeOf_15

set_option maxHeartbeats 4000000 in
set_option maxRecDepth 100000 in
theorem c_L_capacityOf_ok (l : Launch) (dC : Nat → ClassId) (dI : Nat → Nat → Nat) (a : Nat → Nat) (cI cZ cD : ClassId) (ki pl tu le : Nat → Int32) (ch ca : Nat → UInt64) (N : Nat) (tk th hu od : Nat → Int32) (M : Nat) (ti : Int32) (be : Nat → Int32) (clk : Int32) (hN : N ≤ 40) (hM : M ≤ 30) (j : Nat) (hj : j < N) (o : Nat) (od2 : Nat → UInt64) (sz : Nat) : zq_Mi l yL_capacityOf wsL_capacityOf ({ frames := 3, cells := 0, slots := 0, locals := 62 } : Room) (dC, dI) (zq_T cI cZ cD) [.ref (a 0), .int (nI j), .ref o] (wRd a cI cZ cD o ki pl tu le ch ca (nI N) tk th hu od (nI M) ti be clk od2) 0 (wRd a cI cZ cD o ki pl tu le ch ca (nI N) tk th hu od (nI M) ti be clk (vf_upd od2 0 (ca j))) sz := by
  refine va_MetW (cc := cL_capacityOf) (maxL := 4) (ret := (some .int)) (by decide) rfl ?_
  intro p e s m args below meth c s₁ B hml hv
  obtain ⟨rfl, hsz, hP, hK, hD0⟩ := hv
  have hx := B.exec
  have hb := B.bytes
  have hr := B.returns
  have hts := atoms_spec (ws := wsL_capacityOf) B.pre
  have hown : s.vm.findClass RL = some m.cls := findClass_of_methodNamed B.named
  have hlocks := B.notSynchronized
  subst hsz
  have hD := hD0.self (sz := s.heap.size)
  generalize hAe : va_A (wRd a cI cZ cD o ki pl tu le ch ca (nI N) tk th hu od (nI M) ti be clk od2) s.heap.size = A at hD ⊢
  have hA : ∀ q : Nat, s.heap.size ≤ q → A q := fun q h => by rw [← hAe]; exact Or.inr h
  have hS : va_S A s.heap s.heap [] := va_S.rf
  have hP : va_P (dC, dI) vwCl (wRd a cI cZ cD o ki pl tu le ch ca (nI N) tk th hu od (nI M) ti be clk od2) s.heap := hP
  have hl := lv_entry ([.ref (a 0), .int (nI j), .ref o]) (n := 4) (Nat.le_of_ble_eq_true rfl)
  rw [lg_entry_eq]
  generalize (lg_sl ([.ref (a 0), .int (nI j), .ref o]) ++ List.replicate (4 - (lg_sl ([.ref (a 0), .int (nI j), .ref o])).length) Slot.unset).toArray = ls at hl ⊢
  have hl : lv_has ls 4 [(0, .ref (a 0)), (1, .int (nI j)), (2, .ref o)] := hl
  refine lv_aload_n hx hb dL_capacityOf_0 rfl (lv_at hl 2 rfl) ?_
  refine lv_iconst (v := 0) hx hb dL_capacityOf_1 (by decide) ?_
  refine lv_aload_n hx hb dL_capacityOf_2 rfl (lv_at hl 0 rfl) ?_
  refine lv_iload_n hx hb dL_capacityOf_3 rfl (lv_at hl 1 rfl) ?_
  refine zq_cVd (As := [.int (nI j)]) (rest := [.int 0, .ref o]) (wc := (wRo a cI cZ cD ki pl tu le ch ca (nI N) tk th hu od (nI M) ti be clk)) (w1 := (wRo a cI cZ cD ki pl tu le ch ca (nI N) tk th hu od (nI M) ti be clk)) (wr := [(o, .inl (cD, 1, .inr (.inr (.inr (.inl od2)))))]) (ws' := (wRd a cI cZ cD o ki pl tu le ch ca (nI N) tk th hu od (nI M) ti be clk od2)) ⟨hx, hb, hml, hown, hts⟩ (c_X3_capacityOf_ok l dC dI a cI cZ cD ki pl tu le ch ca N tk th hu od M ti be clk (by omega) (by omega) j (hj) s.heap.size) (cwV 1 hts gL_capacityOf_X3_capacityOf rfl rfl rfl (by decide +kernel) ⟨Nat.le_of_ble_eq_true rfl, Nat.le_of_ble_eq_true rfl⟩) hK hP hD hS hA [0, 1, 2, 3, 4, 5, 6, 7, 8, 9, 10, 11, 12, 13, 14] [15] [1, 2, 3, 4, 5, 6, 7, 8, 9, 10, 11, 12, 13, 14, 15, 0] rfl rfl rfl rfl (by decide) rfl rfl (ci := 3) rfl 0 rfl rfl hl.1 rfl (Nat.le_of_ble_eq_true rfl) dL_capacityOf_4 ⟨Nat.zero_le _, Nat.zero_le _⟩ (fun H locs hP hD hS => ?_)
  refine zq_dast hx hb hK hP hD hS 15 2 rfl rfl (j := 0) (by omega) (by decide) (wRd a cI cZ cD o ki pl tu le ch ca (nI N) tk th hu od (nI M) ti be clk (vf_upd od2 0 (ca j))) rfl dL_capacityOf_7 (fun H locs hP hD hS => ?_)
  refine lv_goto (tgt := 14) hx hb dL_capacityOf_8 (by decide) ?_
  refine lv_iconst (v := 0) hx hb dL_capacityOf_14 (by decide) ?_
  exact W.iret (v := 0) hx hb hr (zq_qi rfl hP hK hD hS) hS.2.2 dL_capacityOf_15

set_option maxHeartbeats 4000000 in
set_option maxRecDepth 100000 in
theorem c_L_turnsOf_ok (l : Launch) (dC : Nat → ClassId) (dI : Nat → Nat → Nat) (a : Nat → Nat) (cI cZ cD : ClassId) (ki pl tu le : Nat → Int32) (ch ca : Nat → UInt64) (N : Nat) (tk th hu od : Nat → Int32) (M : Nat) (ti : Int32) (be : Nat → Int32) (clk : Int32) (hN : N ≤ 40) (hM : M ≤ 30) (j : Nat) (hj : j < N) (cJ : ClassId) (o : Nat) (ou : Nat → Int64) (sz : Nat) : zq_Mi l yL_turnsOf wsL_turnsOf ({ frames := 3, cells := 0, slots := 0, locals := 62 } : Room) (dC, dI) (zq_T4 cI cZ cD cJ) [.ref (a 0), .int (nI j), .ref o] (wRl a cI cZ cD cJ o ki pl tu le ch ca (nI N) tk th hu od (nI M) ti be clk ou) 0 (wRl a cI cZ cD cJ o ki pl tu le ch ca (nI N) tk th hu od (nI M) ti be clk (vp_updL ou 0 (Int32.toInt64 (tu j)))) sz := by
  refine va_MetW (cc := cL_turnsOf) (maxL := 4) (ret := (some .int)) (by decide) rfl ?_
  intro p e s m args below meth c s₁ B hml hv
  obtain ⟨rfl, hsz, hP, hK, hD0⟩ := hv
  have hx := B.exec
  have hb := B.bytes
  have hr := B.returns
  have hts := atoms_spec (ws := wsL_turnsOf) B.pre
  have hown : s.vm.findClass RL = some m.cls := findClass_of_methodNamed B.named
  have hlocks := B.notSynchronized
  subst hsz
  have hD := hD0.self (sz := s.heap.size)
  generalize hAe : va_A (wRl a cI cZ cD cJ o ki pl tu le ch ca (nI N) tk th hu od (nI M) ti be clk ou) s.heap.size = A at hD ⊢
  have hA : ∀ q : Nat, s.heap.size ≤ q → A q := fun q h => by rw [← hAe]; exact Or.inr h
  have hS : va_S A s.heap s.heap [] := va_S.rf
  have hP : va_P (dC, dI) vwCl (wRl a cI cZ cD cJ o ki pl tu le ch ca (nI N) tk th hu od (nI M) ti be clk ou) s.heap := hP
  have hl := lv_entry ([.ref (a 0), .int (nI j), .ref o]) (n := 4) (Nat.le_of_ble_eq_true rfl)
  rw [lg_entry_eq]
  generalize (lg_sl ([.ref (a 0), .int (nI j), .ref o]) ++ List.replicate (4 - (lg_sl ([.ref (a 0), .int (nI j), .ref o])).length) Slot.unset).toArray = ls at hl ⊢
  have hl : lv_has ls 4 [(0, .ref (a 0)), (1, .int (nI j)), (2, .ref o)] := hl
  have hK3 : va_K (dC, dI) vwCl (zq_T cI cZ cD) s := hK.sub [0, 1, 2] rfl
  refine lv_aload_n hx hb dL_turnsOf_0 rfl (lv_at hl 2 rfl) ?_
  refine lv_iconst (v := 0) hx hb dL_turnsOf_1 (by decide) ?_
  refine lv_aload_n hx hb dL_turnsOf_2 rfl (lv_at hl 0 rfl) ?_
  refine lv_iload_n hx hb dL_turnsOf_3 rfl (lv_at hl 1 rfl) ?_
  refine zq_cVi (As := [.int (nI j)]) (rest := [.int 0, .ref o]) (wc := (wRo a cI cZ cD ki pl tu le ch ca (nI N) tk th hu od (nI M) ti be clk)) (w1 := (wRo a cI cZ cD ki pl tu le ch ca (nI N) tk th hu od (nI M) ti be clk)) (wr := [(o, .inl (cJ, 1, .inr (.inl ou)))]) (ws' := (wRl a cI cZ cD cJ o ki pl tu le ch ca (nI N) tk th hu od (nI M) ti be clk ou)) ⟨hx, hb, hml, hown, hts⟩ (c_X3_turnsOf_ok l dC dI a cI cZ cD ki pl tu le ch ca N tk th hu od M ti be clk (by omega) (by omega) j (hj) s.heap.size) (cwV 1 hts gL_turnsOf_X3_turnsOf rfl rfl rfl (by decide +kernel) ⟨Nat.le_of_ble_eq_true rfl, Nat.le_of_ble_eq_true rfl⟩) hK3 hP hD hS hA [0, 1, 2, 3, 4, 5, 6, 7, 8, 9, 10, 11, 12, 13, 14] [15] [1, 2, 3, 4, 5, 6, 7, 8, 9, 10, 11, 12, 13, 14, 15, 0] rfl rfl rfl rfl (by decide) rfl rfl (ci := 3) rfl 0 rfl rfl hl.1 rfl (Nat.le_of_ble_eq_true rfl) dL_turnsOf_4 ⟨Nat.zero_le _, Nat.zero_le _⟩ (fun H locs hP hD hS => ?_)
  refine lv_i2l hx hb dL_turnsOf_7 rfl ?_
  refine zq_last hx hb hK hP hD hS 15 3 rfl rfl (wRl a cI cZ cD cJ o ki pl tu le ch ca (nI N) tk th hu od (nI M) ti be clk (vp_updL ou 0 (Int32.toInt64 (tu j)))) rfl dL_turnsOf_8 (fun H locs hP hD hS => ?_)
  refine lv_goto (tgt := 15) hx hb dL_turnsOf_9 (by decide) ?_
  refine lv_iconst (v := 0) hx hb dL_turnsOf_15 (by decide) ?_
  exact W.iret (v := 0) hx hb hr (zq_qi rfl hP hK hD hS) hS.2.2 dL_turnsOf_16

set_option maxHeartbeats 4000000 in
set_option maxRecDepth 100000 in
theorem c_L_ready_ok (l : Launch) (dC : Nat → ClassId) (dI : Nat → Nat → Nat) (a : Nat → Nat) (cI cZ cD : ClassId) (ki pl tu le : Nat → Int32) (ch ca : Nat → UInt64) (N : Nat) (tk th hu od : Nat → Int32) (M : Nat) (ti : Int32) (be : Nat → Int32) (clk : Int32) (hN : N ≤ 40) (hM : M ≤ 30) (k : Int32) (hk : in_b k 0 2 = true) (cJ : ClassId) (o : Nat) (ou : Nat → Int64) (sz : Nat) : zq_Mi l yL_ready wsL_ready ({ frames := 3, cells := 0, slots := 0, locals := 66 } : Room) (dC, dI) (zq_T4 cI cZ cD cJ) [.ref (a 0), .int k, .ref o] (wRl a cI cZ cD cJ o ki pl tu le ch ca (nI N) tk th hu od (nI M) ti be clk ou) 0 (wRl a cI cZ cD cJ o ki pl tu le ch ca (nI N) tk th hu od (nI M) ti be clk (vp_updL ou 0 (Int32.toInt64 (nI (zf_cnt (la_is ki pl ch k) N))))) sz := by
  refine va_MetW (cc := cL_ready) (maxL := 4) (ret := (some .int)) (by decide) rfl ?_
  intro p e s m args below meth c s₁ B hml hv
  obtain ⟨rfl, hsz, hP, hK, hD0⟩ := hv
  have hx := B.exec
  have hb := B.bytes
  have hr := B.returns
  have hts := atoms_spec (ws := wsL_ready) B.pre
  have hown : s.vm.findClass RL = some m.cls := findClass_of_methodNamed B.named
  have hlocks := B.notSynchronized
  subst hsz
  have hD := hD0.self (sz := s.heap.size)
  generalize hAe : va_A (wRl a cI cZ cD cJ o ki pl tu le ch ca (nI N) tk th hu od (nI M) ti be clk ou) s.heap.size = A at hD ⊢
  have hA : ∀ q : Nat, s.heap.size ≤ q → A q := fun q h => by rw [← hAe]; exact Or.inr h
  have hS : va_S A s.heap s.heap [] := va_S.rf
  have hP : va_P (dC, dI) vwCl (wRl a cI cZ cD cJ o ki pl tu le ch ca (nI N) tk th hu od (nI M) ti be clk ou) s.heap := hP
  have hl := lv_entry ([.ref (a 0), .int k, .ref o]) (n := 4) (Nat.le_of_ble_eq_true rfl)
  rw [lg_entry_eq]
  generalize (lg_sl ([.ref (a 0), .int k, .ref o]) ++ List.replicate (4 - (lg_sl ([.ref (a 0), .int k, .ref o])).length) Slot.unset).toArray = ls at hl ⊢
  have hl : lv_has ls 4 [(0, .ref (a 0)), (1, .int k), (2, .ref o)] := hl
  have hK3 : va_K (dC, dI) vwCl (zq_T cI cZ cD) s := hK.sub [0, 1, 2] rfl
  refine lv_aload_n hx hb dL_ready_0 rfl (lv_at hl 2 rfl) ?_
  refine lv_iconst (v := 0) hx hb dL_ready_1 (by decide) ?_
  refine lv_aload_n hx hb dL_ready_2 rfl (lv_at hl 0 rfl) ?_
  refine lv_iload_n hx hb dL_ready_3 rfl (lv_at hl 1 rfl) ?_
  refine zq_cVi (As := [.int k]) (rest := [.int 0, .ref o]) (wc := (wRo a cI cZ cD ki pl tu le ch ca (nI N) tk th hu od (nI M) ti be clk)) (w1 := (wRo a cI cZ cD ki pl tu le ch ca (nI N) tk th hu od (nI M) ti be clk)) (wr := [(o, .inl (cJ, 1, .inr (.inl ou)))]) (ws' := (wRl a cI cZ cD cJ o ki pl tu le ch ca (nI N) tk th hu od (nI M) ti be clk ou)) ⟨hx, hb, hml, hown, hts⟩ (c_X3_ready_ok l dC dI a cI cZ cD ki pl tu le ch ca N tk th hu od M ti be clk (by omega) (by omega) k (hk) s.heap.size) (cwV 1 hts gL_ready_X3_ready rfl rfl rfl (by decide +kernel) ⟨Nat.le_of_ble_eq_true rfl, Nat.le_of_ble_eq_true rfl⟩) hK3 hP hD hS hA [0, 1, 2, 3, 4, 5, 6, 7, 8, 9, 10, 11, 12, 13, 14] [15] [1, 2, 3, 4, 5, 6, 7, 8, 9, 10, 11, 12, 13, 14, 15, 0] rfl rfl rfl rfl (by decide) rfl rfl (ci := 3) rfl 0 rfl rfl hl.1 rfl (Nat.le_of_ble_eq_true rfl) dL_ready_4 ⟨Nat.zero_le _, Nat.zero_le _⟩ (fun H locs hP hD hS => ?_)
  refine lv_i2l hx hb dL_ready_7 rfl ?_
  refine zq_last hx hb hK hP hD hS 15 3 rfl rfl (wRl a cI cZ cD cJ o ki pl tu le ch ca (nI N) tk th hu od (nI M) ti be clk (vp_updL ou 0 (Int32.toInt64 (nI (zf_cnt (la_is ki pl ch k) N))))) rfl dL_ready_8 (fun H locs hP hD hS => ?_)
  refine lv_goto (tgt := 15) hx hb dL_ready_9 (by decide) ?_
  refine lv_iconst (v := 0) hx hb dL_ready_15 (by decide) ?_
  exact W.iret (v := 0) hx hb hr (zq_qi rfl hP hK hD hS) hS.2.2 dL_ready_16

set_option maxHeartbeats 4000000 in
set_option maxRecDepth 100000 in
theorem c_L_lightLeft_off (l : Launch) (dC : Nat → ClassId) (dI : Nat → Nat → Nat) (a : Nat → Nat) (cI cZ cD : ClassId) (ki pl tu le : Nat → Int32) (ch ca : Nat → UInt64) (N : Nat) (tk th hu od : Nat → Int32) (M : Nat) (ti : Int32) (be : Nat → Int32) (clk : Int32) (hN : N ≤ 40) (hM : M ≤ 30) (mi : Nat) (hm : mi < M) (hla : th mi = -1) (cJ : ClassId) (o : Nat) (ou : Nat → Int64) (sz : Nat) : zq_Mi l yL_lightLeft wsL_lightLeft ({ frames := 3, cells := 0, slots := 0, locals := 63 } : Room) (dC, dI) (zq_T4 cI cZ cD cJ) [.ref (a 0), .int (nI mi), .ref o] (wRl a cI cZ cD cJ o ki pl tu le ch ca (nI N) tk th hu od (nI M) ti be clk ou) 0 (wRl a cI cZ cD cJ o ki pl tu le ch ca (nI N) tk th hu od (nI M) ti be clk (vp_updL ou 0 (Int32.toInt64 (-1)))) sz := by
  refine va_MetW (cc := cL_lightLeft) (maxL := 4) (ret := (some .int)) (by decide) rfl ?_
  intro p e s m args below meth c s₁ B hml hv
  obtain ⟨rfl, hsz, hP, hK, hD0⟩ := hv
  have hx := B.exec
  have hb := B.bytes
  have hr := B.returns
  have hts := atoms_spec (ws := wsL_lightLeft) B.pre
  have hown : s.vm.findClass RL = some m.cls := findClass_of_methodNamed B.named
  have hlocks := B.notSynchronized
  subst hsz
  have hD := hD0.self (sz := s.heap.size)
  generalize hAe : va_A (wRl a cI cZ cD cJ o ki pl tu le ch ca (nI N) tk th hu od (nI M) ti be clk ou) s.heap.size = A at hD ⊢
  have hA : ∀ q : Nat, s.heap.size ≤ q → A q := fun q h => by rw [← hAe]; exact Or.inr h
  have hS : va_S A s.heap s.heap [] := va_S.rf
  have hP : va_P (dC, dI) vwCl (wRl a cI cZ cD cJ o ki pl tu le ch ca (nI N) tk th hu od (nI M) ti be clk ou) s.heap := hP
  have hl := lv_entry ([.ref (a 0), .int (nI mi), .ref o]) (n := 4) (Nat.le_of_ble_eq_true rfl)
  rw [lg_entry_eq]
  generalize (lg_sl ([.ref (a 0), .int (nI mi), .ref o]) ++ List.replicate (4 - (lg_sl ([.ref (a 0), .int (nI mi), .ref o])).length) Slot.unset).toArray = ls at hl ⊢
  have hl : lv_has ls 4 [(0, .ref (a 0)), (1, .int (nI mi)), (2, .ref o)] := hl
  have hK3 : va_K (dC, dI) vwCl (zq_T cI cZ cD) s := hK.sub [0, 1, 2] rfl
  refine lv_aload_n hx hb dL_lightLeft_0 rfl (lv_at hl 2 rfl) ?_
  refine lv_iconst (v := 0) hx hb dL_lightLeft_1 (by decide) ?_
  refine lv_aload_n hx hb dL_lightLeft_2 rfl (lv_at hl 0 rfl) ?_
  refine lv_iload_n hx hb dL_lightLeft_3 rfl (lv_at hl 1 rfl) ?_
  refine zq_cVi (As := [.int (nI mi)]) (rest := [.int 0, .ref o]) (wc := (wRo a cI cZ cD ki pl tu le ch ca (nI N) tk th hu od (nI M) ti be clk)) (w1 := (wRo a cI cZ cD ki pl tu le ch ca (nI N) tk th hu od (nI M) ti be clk)) (wr := [(o, .inl (cJ, 1, .inr (.inl ou)))]) (ws' := (wRl a cI cZ cD cJ o ki pl tu le ch ca (nI N) tk th hu od (nI M) ti be clk ou)) ⟨hx, hb, hml, hown, hts⟩ (c_X3_lightLeft_off l dC dI a cI cZ cD ki pl tu le ch ca N tk th hu od M ti be clk (by omega) (by omega) mi (hm) (hla) s.heap.size) (cwV 1 hts gL_lightLeft_X3_lightLeft rfl rfl rfl (by decide +kernel) ⟨Nat.le_of_ble_eq_true rfl, Nat.le_of_ble_eq_true rfl⟩) hK3 hP hD hS hA [0, 1, 2, 3, 4, 5, 6, 7, 8, 9, 10, 11, 12, 13, 14] [15] [1, 2, 3, 4, 5, 6, 7, 8, 9, 10, 11, 12, 13, 14, 15, 0] rfl rfl rfl rfl (by decide) rfl rfl (ci := 3) rfl 0 rfl rfl hl.1 rfl (Nat.le_of_ble_eq_true rfl) dL_lightLeft_4 ⟨Nat.zero_le _, Nat.zero_le _⟩ (fun H locs hP hD hS => ?_)
  refine lv_i2l hx hb dL_lightLeft_7 rfl ?_
  refine zq_last hx hb hK hP hD hS 15 3 rfl rfl (wRl a cI cZ cD cJ o ki pl tu le ch ca (nI N) tk th hu od (nI M) ti be clk (vp_updL ou 0 (Int32.toInt64 (-1)))) rfl dL_lightLeft_8 (fun H locs hP hD hS => ?_)
  refine lv_goto (tgt := 15) hx hb dL_lightLeft_9 (by decide) ?_
  refine lv_iconst (v := 0) hx hb dL_lightLeft_15 (by decide) ?_
  exact W.iret (v := 0) hx hb hr (zq_qi rfl hP hK hD hS) hS.2.2 dL_lightLeft_16

set_option maxHeartbeats 4000000 in
set_option maxRecDepth 100000 in
theorem c_L_lightLeft_ok (l : Launch) (dC : Nat → ClassId) (dI : Nat → Nat → Nat) (a : Nat → Nat) (cI cZ cD : ClassId) (ki pl tu le : Nat → Int32) (ch ca : Nat → UInt64) (N : Nat) (tk th hu od : Nat → Int32) (M : Nat) (ti : Int32) (be : Nat → Int32) (clk : Int32) (hN : N ≤ 40) (hM : M ≤ 30) (mi : Nat) (hm : mi < M) (j : Nat) (hj : j < N) (hla : th mi = nI j) (cJ : ClassId) (o : Nat) (ou : Nat → Int64) (sz : Nat) : zq_Mi l yL_lightLeft wsL_lightLeft ({ frames := 3, cells := 0, slots := 0, locals := 63 } : Room) (dC, dI) (zq_T4 cI cZ cD cJ) [.ref (a 0), .int (nI mi), .ref o] (wRl a cI cZ cD cJ o ki pl tu le ch ca (nI N) tk th hu od (nI M) ti be clk ou) 0 (wRl a cI cZ cD cJ o ki pl tu le ch ca (nI N) tk th hu od (nI M) ti be clk (vp_updL ou 0 (Int32.toInt64 (FP.d2i (ch j))))) sz := by
  refine va_MetW (cc := cL_lightLeft) (maxL := 4) (ret := (some .int)) (by decide) rfl ?_
  intro p e s m args below meth c s₁ B hml hv
  obtain ⟨rfl, hsz, hP, hK, hD0⟩ := hv
  have hx := B.exec
  have hb := B.bytes
  have hr := B.returns
  have hts := atoms_spec (ws := wsL_lightLeft) B.pre
  have hown : s.vm.findClass RL = some m.cls := findClass_of_methodNamed B.named
  have hlocks := B.notSynchronized
  subst hsz
  have hD := hD0.self (sz := s.heap.size)
  generalize hAe : va_A (wRl a cI cZ cD cJ o ki pl tu le ch ca (nI N) tk th hu od (nI M) ti be clk ou) s.heap.size = A at hD ⊢
  have hA : ∀ q : Nat, s.heap.size ≤ q → A q := fun q h => by rw [← hAe]; exact Or.inr h
  have hS : va_S A s.heap s.heap [] := va_S.rf
  have hP : va_P (dC, dI) vwCl (wRl a cI cZ cD cJ o ki pl tu le ch ca (nI N) tk th hu od (nI M) ti be clk ou) s.heap := hP
  have hl := lv_entry ([.ref (a 0), .int (nI mi), .ref o]) (n := 4) (Nat.le_of_ble_eq_true rfl)
  rw [lg_entry_eq]
  generalize (lg_sl ([.ref (a 0), .int (nI mi), .ref o]) ++ List.replicate (4 - (lg_sl ([.ref (a 0), .int (nI mi), .ref o])).length) Slot.unset).toArray = ls at hl ⊢
  have hl : lv_has ls 4 [(0, .ref (a 0)), (1, .int (nI mi)), (2, .ref o)] := hl
  have hK3 : va_K (dC, dI) vwCl (zq_T cI cZ cD) s := hK.sub [0, 1, 2] rfl
  refine lv_aload_n hx hb dL_lightLeft_0 rfl (lv_at hl 2 rfl) ?_
  refine lv_iconst (v := 0) hx hb dL_lightLeft_1 (by decide) ?_
  refine lv_aload_n hx hb dL_lightLeft_2 rfl (lv_at hl 0 rfl) ?_
  refine lv_iload_n hx hb dL_lightLeft_3 rfl (lv_at hl 1 rfl) ?_
  refine zq_cVi (As := [.int (nI mi)]) (rest := [.int 0, .ref o]) (wc := (wRo a cI cZ cD ki pl tu le ch ca (nI N) tk th hu od (nI M) ti be clk)) (w1 := (wRo a cI cZ cD ki pl tu le ch ca (nI N) tk th hu od (nI M) ti be clk)) (wr := [(o, .inl (cJ, 1, .inr (.inl ou)))]) (ws' := (wRl a cI cZ cD cJ o ki pl tu le ch ca (nI N) tk th hu od (nI M) ti be clk ou)) ⟨hx, hb, hml, hown, hts⟩ (c_X3_lightLeft_ok l dC dI a cI cZ cD ki pl tu le ch ca N tk th hu od M ti be clk (by omega) (by omega) mi (hm) (j) (hj) (hla) s.heap.size) (cwV 1 hts gL_lightLeft_X3_lightLeft rfl rfl rfl (by decide +kernel) ⟨Nat.le_of_ble_eq_true rfl, Nat.le_of_ble_eq_true rfl⟩) hK3 hP hD hS hA [0, 1, 2, 3, 4, 5, 6, 7, 8, 9, 10, 11, 12, 13, 14] [15] [1, 2, 3, 4, 5, 6, 7, 8, 9, 10, 11, 12, 13, 14, 15, 0] rfl rfl rfl rfl (by decide) rfl rfl (ci := 3) rfl 0 rfl rfl hl.1 rfl (Nat.le_of_ble_eq_true rfl) dL_lightLeft_4 ⟨Nat.zero_le _, Nat.zero_le _⟩ (fun H locs hP hD hS => ?_)
  refine lv_i2l hx hb dL_lightLeft_7 rfl ?_
  refine zq_last hx hb hK hP hD hS 15 3 rfl rfl (wRl a cI cZ cD cJ o ki pl tu le ch ca (nI N) tk th hu od (nI M) ti be clk (vp_updL ou 0 (Int32.toInt64 (FP.d2i (ch j))))) rfl dL_lightLeft_8 (fun H locs hP hD hS => ?_)
  refine lv_goto (tgt := 15) hx hb dL_lightLeft_9 (by decide) ?_
  refine lv_iconst (v := 0) hx hb dL_lightLeft_15 (by decide) ?_
  exact W.iret (v := 0) hx hb hr (zq_qi rfl hP hK hD hS) hS.2.2 dL_lightLeft_16

