set_option maxHeartbeats 8000000 in
set_option maxRecDepth 100000 in
theorem c_L_isRead (l : Launch) (hl0 : l.stackTraces = false) (dC : Nat → ClassId) (dI : Nat → Nat → Nat) (a : Nat → Nat) (cI cZ cD : ClassId) (ki pl tu le : Nat → Int32) (ch ca : Nat → UInt64) (N : Nat) (tk th hu od : Nat → Int32) (M : Nat) (ti : Int32) (be : Nat → Int32) (clk : Int32) (hN : N ≤ 40) (hM : M ≤ 30) (v : Nat → Nat) (lL : Nat → Int32) (lC lF : Nat → UInt64) (lW lM lB lH lR lD lG : Nat → Int32) (hg0 : lG 0 = nI N) (hg1 : lG 1 = nI M) (hth : ∀ i, i < M → th i = -1) (hm0 : ∀ i, i < M → lM i = 0) (hbe : ∀ i, be i = 0) (sz : Nat) : zg_M l yL_isRead wsL_isRead ({ frames := 9, cells := 1, slots := 6, locals := 155 } : Room) (dC, dI) (zq_T cI cZ cD) [.ref (a 0), .ref (v 5), .ref (v 6), .ref (v 7), .ref (v 8), .ref (v 9), .ref (v 10)] (wLw a v cI cZ cD ki pl tu le ch ca (nI N) tk th hu od (nI M) ti be clk lL lC lF lW lM lB lH lR lD lG) 1 (wLw a v cI cZ cD ki pl tu le ch ca (nI N) tk th hu od (nI M) ti be clk lL lC lF lW lM lB lH lR lD lG) sz 1 6 := by
  refine Met.ofW (cc := cL_isRead) (maxL := 14) (ret := (some .boolean)) (by decide) rfl ?_
  intro p e s m args below meth c s₁ B hml hv
  obtain ⟨rfl, ⟨hsz, hP, hK, hD0⟩, hH, hE⟩ := hv
  have hx := B.exec
  have hb := B.bytes
  have hr := B.returns
  have hts := atoms_spec (ws := wsL_isRead) B.pre
  have hown : s.vm.findClass RL = some m.cls := findClass_of_methodNamed B.named
  have hlocks := B.notSynchronized
  subst hsz
  have hD := hD0.self (sz := s.heap.size)
  generalize hAe : va_A (wLw a v cI cZ cD ki pl tu le ch ca (nI N) tk th hu od (nI M) ti be clk lL lC lF lW lM lB lH lR lD lG) s.heap.size = A at hD hH ⊢
  have hA : ∀ q : Nat, s.heap.size ≤ q → A q := fun q h => by rw [← hAe]; exact Or.inr h
  have hS : va_S A s.heap s.heap [] := va_S.rf
  have hP : va_P (dC, dI) vwCl (wLw a v cI cZ cD ki pl tu le ch ca (nI N) tk th hu od (nI M) ti be clk lL lC lF lW lM lB lH lR lD lG) s.heap := hP
  have hl := lv_entry ([.ref (a 0), .ref (v 5), .ref (v 6), .ref (v 7), .ref (v 8), .ref (v 9), .ref (v 10)]) (n := 14) (Nat.le_of_ble_eq_true rfl)
  rw [lg_entry_eq]
  generalize (lg_sl ([.ref (a 0), .ref (v 5), .ref (v 6), .ref (v 7), .ref (v 8), .ref (v 9), .ref (v 10)]) ++ List.replicate (14 - (lg_sl ([.ref (a 0), .ref (v 5), .ref (v 6), .ref (v 7), .ref (v 8), .ref (v 9), .ref (v 10)])).length) Slot.unset).toArray = ls at hl ⊢
  have hl : lv_has ls 14 [(0, .ref (a 0)), (1, .ref (v 5)), (2, .ref (v 6)), (3, .ref (v 7)), (4, .ref (v 8)), (5, .ref (v 9)), (6, .ref (v 10))] := hl
  have hcnt : nI (zf_cnt (ta_p th) M) = 0 := by rw [zw_cnt0 M (fun j hj => by simp [ta_p, hth j hj])]; rfl
  have hbd : ∀ x, zf_find (ta_hit th od M x) M 0 = -1 := fun x => zw_find M (fun j hj => by simp [ta_hit, hth j hj])
  have hal : ∀ x, zf_find (al_hit be x) 60 0 = -1 := fun x => zw_find 60 (fun j _ => by simp [al_hit, hbe j])
  have hlo : ∀ i, i < M → (if th i = -1 then -1 else clk - hu i) = (-1 : Int32) := fun i hi => if_pos (hth i hi)
  refine lv_iconst (v := 0) hx hb dL_isRead_0 (by decide) ?_
  refine lv_istore (lv' := [(7, .int 0), (0, .ref (a 0)), (1, .ref (v 5)), (2, .ref (v 6)), (3, .ref (v 7)), (4, .ref (v 8)), (5, .ref (v 9)), (6, .ref (v 10))]) hx hb dL_isRead_1 hl (by decide) rfl (fun ls hl => ?_)
  refine lv_iconst (v := 0) hx hb dL_isRead_3 (by decide) ?_
  refine lv_istore (lv' := [(8, .int 0), (7, .int 0), (0, .ref (a 0)), (1, .ref (v 5)), (2, .ref (v 6)), (3, .ref (v 7)), (4, .ref (v 8)), (5, .ref (v 9)), (6, .ref (v 10))]) hx hb dL_isRead_4 hl (by decide) rfl (fun ls hl => ?_)
  refine lv_iconst (v := 0) hx hb dL_isRead_6 (by decide) ?_
  refine lv_istore (lv' := [(9, .int 0), (8, .int 0), (7, .int 0), (0, .ref (a 0)), (1, .ref (v 5)), (2, .ref (v 6)), (3, .ref (v 7)), (4, .ref (v 8)), (5, .ref (v 9)), (6, .ref (v 10))]) hx hb dL_isRead_7 hl (by decide) rfl (fun ls hl => ?_)
  refine zq_loop 9 M (fun i H locs ls => va_P (dC, dI) vwCl (wLw a v cI cZ cD ki pl tu le ch ca (nI N) tk th hu od (nI M) ti be clk lL lC lF lW lM lB lH lR lD lG) H ∧ va_D A (wLw a v cI cZ cD ki pl tu le ch ca (nI N) tk th hu od (nI M) ti be clk lL lC lF lW lM lB lH lR lD lG) ∧ va_S A s.heap H locs ∧ lv_has ls 14 [(9, .int (nI i)), (7, .int 0), (8, .int 0), (0, .ref (a 0)), (1, .ref (v 5)), (2, .ref (v 6)), (3, .ref (v 7)), (4, .ref (v 8)), (5, .ref (v 9)), (6, .ref (v 10))]) ?_ 0 (by omega) _ _ _ ⟨hP, hD, hS, lv_sub hl [0, 2, 1, 3, 4, 5, 6, 7, 8, 9] rfl⟩
  intro i hi_i ih_i H locs ls hh
  obtain ⟨hP, hD, hS, hl⟩ := hh
  refine lv_iload hx hb dL_isRead_9 (lv_at hl 0 rfl) ?_
  refine lv_aload hx hb dL_isRead_11 (lv_at hl 9 rfl) ?_
  refine lv_iconst (v := 1) hx hb dL_isRead_13 (by decide) ?_
  refine zq_iald hx hb hK hP 24 0 rfl rfl (j := 1) (by decide) (by decide) dL_isRead_14 ?_
  rw [hg1]
  refine lv_icmp_ge (tgt := 491) hx hb dL_isRead_15 (by decide) (fun c_0 => ?_) (fun c_0 => ?_)
  · have d_0 := (nI_leI (a := M) (b := i) (by omega) (by omega)).mp c_0
    have ei_i : i = M := by omega
    refine lv_aload_n hx hb dL_isRead_491 rfl (lv_at hl 3 rfl) ?_
    refine zq_cVi (As := []) (rest := []) (wc := (wRo a cI cZ cD ki pl tu le ch ca (nI N) tk th hu od (nI M) ti be clk)) (w1 := (wRo a cI cZ cD ki pl tu le ch ca (nI N) tk th hu od (nI M) ti be clk)) (wr := (wAr v cI cD lL lC lF lW lM lB lH lR lD lG)) (ws' := (wLw a v cI cZ cD ki pl tu le ch ca (nI N) tk th hu od (nI M) ti be clk lL lC lF lW lM lB lH lR lD lG)) ⟨hx, hb, hml, hown, hts⟩ (c_X3_below l dC dI a cI cZ cD ki pl tu le ch ca N tk th hu od M ti be clk (by omega) (by omega) H.size) (cwV 0 hts gL_isRead_X3_below rfl rfl rfl (by decide +kernel) ⟨Nat.le_of_ble_eq_true rfl, Nat.le_of_ble_eq_true rfl⟩) hK hP hD hS hA [0, 1, 2, 3, 4, 5, 6, 7, 8, 9, 10, 11, 12, 13, 14] [15, 16, 17, 18, 19, 20, 21, 22, 23, 24] [10, 11, 12, 13, 14, 15, 16, 17, 18, 19, 20, 21, 22, 23, 24, 0, 1, 2, 3, 4, 5, 6, 7, 8, 9] rfl rfl rfl rfl (by decide) rfl rfl (ci := 3) rfl 0 rfl rfl hl.1 rfl (Nat.le_of_ble_eq_true rfl) dL_isRead_492 ⟨Nat.le_of_ble_eq_true rfl, Nat.le_of_ble_eq_true rfl⟩ (fun H locs hP hD hS => ?_)
    rw [hcnt]
    refine lv_iload hx hb dL_isRead_495 (lv_at hl 1 rfl) ?_
    refine lv_icmp_ne (tgt := 555) hx hb dL_isRead_497 (by decide) (fun c => absurd c (by decide)) (fun _ => ?_)
    refine lv_aload_n hx hb dL_isRead_500 rfl (lv_at hl 3 rfl) ?_
    refine lv_iload hx hb dL_isRead_501 (lv_at hl 1 rfl) ?_
    refine zq_cVi (As := [.int 0]) (rest := []) (wc := (wRo a cI cZ cD ki pl tu le ch ca (nI N) tk th hu od (nI M) ti be clk)) (w1 := (wRo a cI cZ cD ki pl tu le ch ca (nI N) tk th hu od (nI M) ti be clk)) (wr := (wAr v cI cD lL lC lF lW lM lB lH lR lD lG)) (ws' := (wLw a v cI cZ cD ki pl tu le ch ca (nI N) tk th hu od (nI M) ti be clk lL lC lF lW lM lB lH lR lD lG)) ⟨hx, hb, hml, hown, hts⟩ (c_X3_board l dC dI a cI cZ cD ki pl tu le ch ca N tk th hu od M ti be clk (by omega) (by omega) 0 H.size) (cwV 1 hts gL_isRead_X3_board rfl rfl rfl (by decide +kernel) ⟨Nat.le_of_ble_eq_true rfl, Nat.le_of_ble_eq_true rfl⟩) hK hP hD hS hA [0, 1, 2, 3, 4, 5, 6, 7, 8, 9, 10, 11, 12, 13, 14] [15, 16, 17, 18, 19, 20, 21, 22, 23, 24] [10, 11, 12, 13, 14, 15, 16, 17, 18, 19, 20, 21, 22, 23, 24, 0, 1, 2, 3, 4, 5, 6, 7, 8, 9] rfl rfl rfl rfl (by decide) rfl rfl (ci := 3) rfl 0 rfl rfl hl.1 rfl (Nat.le_of_ble_eq_true rfl) dL_isRead_503 ⟨Nat.le_of_ble_eq_true rfl, Nat.le_of_ble_eq_true rfl⟩ (fun H locs hP hD hS => ?_)
    rw [hbd]
    refine lv_iconst (v := (-1)) hx hb dL_isRead_506 (by decide) ?_
    refine lv_icmp_ne (tgt := 555) hx hb dL_isRead_507 (by decide) (fun c => absurd c (by decide)) (fun _ => ?_)
    refine lv_aload_n hx hb dL_isRead_510 rfl (lv_at hl 3 rfl) ?_
    refine lv_iconst (v := (-1)) hx hb dL_isRead_511 (by decide) ?_
    refine zq_cVi (As := [.int (-1)]) (rest := []) (wc := (wRo a cI cZ cD ki pl tu le ch ca (nI N) tk th hu od (nI M) ti be clk)) (w1 := (wRo a cI cZ cD ki pl tu le ch ca (nI N) tk th hu od (nI M) ti be clk)) (wr := (wAr v cI cD lL lC lF lW lM lB lH lR lD lG)) (ws' := (wLw a v cI cZ cD ki pl tu le ch ca (nI N) tk th hu od (nI M) ti be clk lL lC lF lW lM lB lH lR lD lG)) ⟨hx, hb, hml, hown, hts⟩ (c_X3_board l dC dI a cI cZ cD ki pl tu le ch ca N tk th hu od M ti be clk (by omega) (by omega) (-1) H.size) (cwV 1 hts gL_isRead_X3_board rfl rfl rfl (by decide +kernel) ⟨Nat.le_of_ble_eq_true rfl, Nat.le_of_ble_eq_true rfl⟩) hK hP hD hS hA [0, 1, 2, 3, 4, 5, 6, 7, 8, 9, 10, 11, 12, 13, 14] [15, 16, 17, 18, 19, 20, 21, 22, 23, 24] [10, 11, 12, 13, 14, 15, 16, 17, 18, 19, 20, 21, 22, 23, 24, 0, 1, 2, 3, 4, 5, 6, 7, 8, 9] rfl rfl rfl rfl (by decide) rfl rfl (ci := 3) rfl 0 rfl rfl hl.1 rfl (Nat.le_of_ble_eq_true rfl) dL_isRead_512 ⟨Nat.le_of_ble_eq_true rfl, Nat.le_of_ble_eq_true rfl⟩ (fun H locs hP hD hS => ?_)
    rw [hbd]
    refine lv_iconst (v := (-1)) hx hb dL_isRead_515 (by decide) ?_
    refine lv_icmp_ne (tgt := 555) hx hb dL_isRead_516 (by decide) (fun c => absurd c (by decide)) (fun _ => ?_)
    refine lv_aload_n hx hb dL_isRead_519 rfl (lv_at hl 3 rfl) ?_
    refine lv_iload hx hb dL_isRead_520 (lv_at hl 2 rfl) ?_
    refine zq_cVi (As := [.int 0]) (rest := []) (wc := (wRo a cI cZ cD ki pl tu le ch ca (nI N) tk th hu od (nI M) ti be clk)) (w1 := (wRo a cI cZ cD ki pl tu le ch ca (nI N) tk th hu od (nI M) ti be clk)) (wr := (wAr v cI cD lL lC lF lW lM lB lH lR lD lG)) (ws' := (wLw a v cI cZ cD ki pl tu le ch ca (nI N) tk th hu od (nI M) ti be clk lL lC lF lW lM lB lH lR lD lG)) ⟨hx, hb, hml, hown, hts⟩ (c_X3_alarm l dC dI a cI cZ cD ki pl tu le ch ca N tk th hu od M ti be clk (by omega) (by omega) 0 H.size) (cwV 1 hts gL_isRead_X3_alarm rfl rfl rfl (by decide +kernel) ⟨Nat.le_of_ble_eq_true rfl, Nat.le_of_ble_eq_true rfl⟩) hK hP hD hS hA [0, 1, 2, 3, 4, 5, 6, 7, 8, 9, 10, 11, 12, 13, 14] [15, 16, 17, 18, 19, 20, 21, 22, 23, 24] [10, 11, 12, 13, 14, 15, 16, 17, 18, 19, 20, 21, 22, 23, 24, 0, 1, 2, 3, 4, 5, 6, 7, 8, 9] rfl rfl rfl rfl (by decide) rfl rfl (ci := 3) rfl 0 rfl rfl hl.1 rfl (Nat.le_of_ble_eq_true rfl) dL_isRead_522 ⟨Nat.le_of_ble_eq_true rfl, Nat.le_of_ble_eq_true rfl⟩ (fun H locs hP hD hS => ?_)
    rw [hal]
    refine lv_iconst (v := (-1)) hx hb dL_isRead_525 (by decide) ?_
    refine lv_icmp_ne (tgt := 555) hx hb dL_isRead_526 (by decide) (fun c => absurd c (by decide)) (fun _ => ?_)
    refine lv_aload_n hx hb dL_isRead_529 rfl (lv_at hl 3 rfl) ?_
    refine lv_iconst (v := (-1)) hx hb dL_isRead_530 (by decide) ?_
    refine zq_cVi (As := [.int (-1)]) (rest := []) (wc := (wRo a cI cZ cD ki pl tu le ch ca (nI N) tk th hu od (nI M) ti be clk)) (w1 := (wRo a cI cZ cD ki pl tu le ch ca (nI N) tk th hu od (nI M) ti be clk)) (wr := (wAr v cI cD lL lC lF lW lM lB lH lR lD lG)) (ws' := (wLw a v cI cZ cD ki pl tu le ch ca (nI N) tk th hu od (nI M) ti be clk lL lC lF lW lM lB lH lR lD lG)) ⟨hx, hb, hml, hown, hts⟩ (c_X3_alarm l dC dI a cI cZ cD ki pl tu le ch ca N tk th hu od M ti be clk (by omega) (by omega) (-1) H.size) (cwV 1 hts gL_isRead_X3_alarm rfl rfl rfl (by decide +kernel) ⟨Nat.le_of_ble_eq_true rfl, Nat.le_of_ble_eq_true rfl⟩) hK hP hD hS hA [0, 1, 2, 3, 4, 5, 6, 7, 8, 9, 10, 11, 12, 13, 14] [15, 16, 17, 18, 19, 20, 21, 22, 23, 24] [10, 11, 12, 13, 14, 15, 16, 17, 18, 19, 20, 21, 22, 23, 24, 0, 1, 2, 3, 4, 5, 6, 7, 8, 9] rfl rfl rfl rfl (by decide) rfl rfl (ci := 3) rfl 0 rfl rfl hl.1 rfl (Nat.le_of_ble_eq_true rfl) dL_isRead_531 ⟨Nat.le_of_ble_eq_true rfl, Nat.le_of_ble_eq_true rfl⟩ (fun H locs hP hD hS => ?_)
    rw [hal]
    refine lv_iconst (v := (-1)) hx hb dL_isRead_534 (by decide) ?_
    refine lv_icmp_ne (tgt := 555) hx hb dL_isRead_535 (by decide) (fun c => absurd c (by decide)) (fun _ => ?_)
    refine lv_aload_n hx hb dL_isRead_538 rfl (lv_at hl 3 rfl) ?_
    refine lv_aload hx hb dL_isRead_539 (lv_at hl 9 rfl) ?_
    refine lv_iconst (v := 1) hx hb dL_isRead_541 (by decide) ?_
    refine zq_iald hx hb hK hP 24 0 rfl rfl (j := 1) (by decide) (by decide) dL_isRead_542 ?_
    rw [hg1]
    refine zl_cWi (As := [.ref (a 0), .int (nI M)]) (rest := []) (wc := (wRo a cI cZ cD ki pl tu le ch ca (nI N) tk th hu od (nI M) ti be clk)) (wr := (wAr v cI cD lL lC lF lW lM lB lH lR lD lG)) ⟨hx, hb, hml, hown, hts⟩ (c_L_lampOf_bad l hl0 dC dI a cI cZ cD ki pl tu le ch ca N tk th hu od M ti be clk (by omega) (by omega) (nI M) (zw_top (by omega)) H.size) (vx_cwSW 2 hts gL_isRead_L_lampOf rfl rfl rfl (by decide +kernel) ⟨Nat.le_of_ble_eq_true rfl, Nat.le_of_ble_eq_true rfl⟩) hK hP hD hS hA (hH.kept hS.2.1) hE [0, 1, 2, 3, 4, 5, 6, 7, 8, 9, 10, 11, 12, 13, 14] [15, 16, 17, 18, 19, 20, 21, 22, 23, 24] [10, 11, 12, 13, 14, 15, 16, 17, 18, 19, 20, 21, 22, 23, 24, 0, 1, 2, 3, 4, 5, 6, 7, 8, 9] rfl rfl rfl rfl (by decide) rfl rfl rfl hl.1 rfl (Nat.le_of_ble_eq_true rfl) dL_isRead_543 ⟨Nat.le_of_ble_eq_true rfl, Nat.le_of_ble_eq_true rfl⟩ (fun H locs hP hD hS hG => ?_)
    refine lv_bipush (v := (-61)) hx hb dL_isRead_546 (by decide) ?_
    refine lv_icmp_ne (tgt := 555) hx hb dL_isRead_548 (by decide) (fun c => absurd c (by decide)) (fun _ => ?_)
    refine lv_iconst (v := 1) hx hb dL_isRead_551 (by decide) ?_
    refine lv_goto (tgt := 556) hx hb dL_isRead_552 (by decide) ?_
    exact W.zret (v := 1) hx hb hr (by rfl) (zg_qi rfl hP hK hD hS hG) hS.2.2 dL_isRead_556
  · have d_0 := Nat.not_le.mp (fun h => c_0 ((nI_leI (a := M) (b := i) (by omega) (by omega)).mpr h))
    refine lv_aload_n hx hb dL_isRead_18 rfl (lv_at hl 3 rfl) ?_
    refine lv_iload hx hb dL_isRead_19 (lv_at hl 0 rfl) ?_
    refine zq_cVi (As := [.int (nI i)]) (rest := []) (wc := (wRo a cI cZ cD ki pl tu le ch ca (nI N) tk th hu od (nI M) ti be clk)) (w1 := (wRo a cI cZ cD ki pl tu le ch ca (nI N) tk th hu od (nI M) ti be clk)) (wr := (wAr v cI cD lL lC lF lW lM lB lH lR lD lG)) (ws' := (wLw a v cI cZ cD ki pl tu le ch ca (nI N) tk th hu od (nI M) ti be clk lL lC lF lW lM lB lH lR lD lG)) ⟨hx, hb, hml, hown, hts⟩ (c_X3_lampOf_ok l dC dI a cI cZ cD ki pl tu le ch ca N tk th hu od M ti be clk (by omega) (by omega) i (by omega) H.size) (cwV 1 hts gL_isRead_X3_lampOf rfl rfl rfl (by decide +kernel) ⟨Nat.le_of_ble_eq_true rfl, Nat.le_of_ble_eq_true rfl⟩) hK hP hD hS hA [0, 1, 2, 3, 4, 5, 6, 7, 8, 9, 10, 11, 12, 13, 14] [15, 16, 17, 18, 19, 20, 21, 22, 23, 24] [10, 11, 12, 13, 14, 15, 16, 17, 18, 19, 20, 21, 22, 23, 24, 0, 1, 2, 3, 4, 5, 6, 7, 8, 9] rfl rfl rfl rfl (by decide) rfl rfl (ci := 3) rfl 0 rfl rfl hl.1 rfl (Nat.le_of_ble_eq_true rfl) dL_isRead_21 ⟨Nat.le_of_ble_eq_true rfl, Nat.le_of_ble_eq_true rfl⟩ (fun H locs hP hD hS => ?_)
    rw [hth i (by omega)]
    refine lv_aload_n hx hb dL_isRead_24 rfl (lv_at hl 4 rfl) ?_
    refine lv_iload hx hb dL_isRead_25 (lv_at hl 0 rfl) ?_
    refine zq_iald hx hb hK hP 19 0 rfl rfl (j := i) (by omega) (by decide) dL_isRead_27 ?_
    rw [hm0 i (by omega)]
    refine lv_iconst (v := 1) hx hb dL_isRead_28 (by decide) ?_
    refine t_isub hx hb dL_isRead_29 (v := (-1)) (by decide +kernel) ?_
    refine lv_icmp_ne (tgt := 62) hx hb dL_isRead_30 (by decide) (fun c => absurd c (by decide)) (fun _ => ?_)
    refine lv_aload_n hx hb dL_isRead_33 rfl (lv_at hl 3 rfl) ?_
    refine lv_iload hx hb dL_isRead_34 (lv_at hl 0 rfl) ?_
    refine zq_cVi (As := [.int (nI i)]) (rest := []) (wc := (wRo a cI cZ cD ki pl tu le ch ca (nI N) tk th hu od (nI M) ti be clk)) (w1 := (wRo a cI cZ cD ki pl tu le ch ca (nI N) tk th hu od (nI M) ti be clk)) (wr := (wAr v cI cD lL lC lF lW lM lB lH lR lD lG)) (ws' := (wLw a v cI cZ cD ki pl tu le ch ca (nI N) tk th hu od (nI M) ti be clk lL lC lF lW lM lB lH lR lD lG)) ⟨hx, hb, hml, hown, hts⟩ (c_X3_hoursBelow_ok l dC dI a cI cZ cD ki pl tu le ch ca N tk th hu od M ti be clk (by omega) (by omega) i (by omega) H.size) (cwV 1 hts gL_isRead_X3_hoursBelow rfl rfl rfl (by decide +kernel) ⟨Nat.le_of_ble_eq_true rfl, Nat.le_of_ble_eq_true rfl⟩) hK hP hD hS hA [0, 1, 2, 3, 4, 5, 6, 7, 8, 9, 10, 11, 12, 13, 14] [15, 16, 17, 18, 19, 20, 21, 22, 23, 24] [10, 11, 12, 13, 14, 15, 16, 17, 18, 19, 20, 21, 22, 23, 24, 0, 1, 2, 3, 4, 5, 6, 7, 8, 9] rfl rfl rfl rfl (by decide) rfl rfl (ci := 3) rfl 0 rfl rfl hl.1 rfl (Nat.le_of_ble_eq_true rfl) dL_isRead_36 ⟨Nat.le_of_ble_eq_true rfl, Nat.le_of_ble_eq_true rfl⟩ (fun H locs hP hD hS => ?_)
    rw [hlo i (by omega)]
    refine lv_aload_n hx hb dL_isRead_39 rfl (lv_at hl 4 rfl) ?_
    refine lv_iload hx hb dL_isRead_40 (lv_at hl 0 rfl) ?_
    refine zq_iald hx hb hK hP 19 0 rfl rfl (j := i) (by omega) (by decide) dL_isRead_42 ?_
    rw [hm0 i (by omega)]
    refine lv_if_ne (tgt := 50) hx hb dL_isRead_43 (by decide) (fun c => absurd c (by decide)) (fun _ => ?_)
    refine lv_iconst (v := (-1)) hx hb dL_isRead_46 (by decide) ?_
    refine lv_goto (tgt := 59) hx hb dL_isRead_47 (by decide) ?_
    refine lv_icmp_eq (tgt := 64) hx hb dL_isRead_59 (by decide) (fun _ => ?_) (fun c => absurd c (by decide))
    refine lv_aload_n hx hb dL_isRead_64 rfl (lv_at hl 4 rfl) ?_
    refine lv_iload hx hb dL_isRead_65 (lv_at hl 0 rfl) ?_
    refine zq_iald hx hb hK hP 19 0 rfl rfl (j := i) (by omega) (by decide) dL_isRead_67 ?_
    rw [hm0 i (by omega)]
    refine lv_if_ne (tgt := 74) hx hb dL_isRead_68 (by decide) (fun c => absurd c (by decide)) (fun _ => ?_)
    refine lv_goto (tgt := 485) hx hb dL_isRead_71 (by decide) ?_
    refine lv_iinc (v := nI (i + 1)) (lv' := [(9, .int (nI (i + 1))), (7, .int 0), (8, .int 0), (0, .ref (a 0)), (1, .ref (v 5)), (2, .ref (v 6)), (3, .ref (v 7)), (4, .ref (v 8)), (5, .ref (v 9)), (6, .ref (v 10))]) hx hb dL_isRead_485 hl (k := 0) rfl (nI_add _ 1) (by decide) rfl (fun ls hl => ?_)
    refine lv_goto (tgt := 9) hx hb dL_isRead_488 (by decide) ?_
    exact ih_i _ _ _ (by omega) ⟨hP, hD, hS, lv_sub hl [0, 1, 2, 3, 4, 5, 6, 7, 8, 9] rfl⟩

