set_option maxHeartbeats 8000000 in
set_option maxRecDepth 100000 in
theorem c_L_isRacked (l : Launch) (hl0 : l.stackTraces = false) (dC : Nat → ClassId) (dI : Nat → Nat → Nat) (a : Nat → Nat) (cI cZ cD : ClassId) (ki pl tu le : Nat → Int32) (ch ca : Nat → UInt64) (N : Nat) (tk th hu od : Nat → Int32) (M : Nat) (ti : Int32) (be : Nat → Int32) (clk : Int32) (hN : N ≤ 40) (hM : M ≤ 30) (v : Nat → Nat) (lL : Nat → Int32) (lC lF : Nat → UInt64) (lW lM lB lH lR lD lG : Nat → Int32) (hg0 : lG 0 = nI N) (hg1 : lG 1 = nI M) (hth : ∀ i, i < M → th i = -1) (hm0 : ∀ i, i < M → lM i = 0) (hbe : ∀ i, be i = 0) (hpl : ∀ i, i < N → pl i = 0) (htu : ∀ i, i < N → tu i = 0) (hch : ∀ i, i < N → ch i = 4626322717216342016) (hca : ∀ i, i < N → ca i = 4626322717216342016) (hki : ∀ i, i < N → ki i = 2) (hlL : ∀ i, i < N → lL i = 2) (hlC : ∀ i, i < N → lC i = 4626322717216342016) (hlF : ∀ i, i < N → lF i = 4626322717216342016) (hp : ∀ i, i < 40 → zn_p (ch i)) (hc : ∀ i, i < 40 → zn_p (ca i)) (sz : Nat) : zg_M l yL_isRacked wsL_isRacked ({ frames := 9, cells := 4, slots := 24, locals := 155 } : Room) (dC, dI) (zq_T cI cZ cD) [.ref (a 0), .ref (v 1), .ref (v 2), .ref (v 3), .ref (v 4), .ref (v 5), .ref (v 10)] (wLw a v cI cZ cD ki pl tu le ch ca (nI N) tk th hu od (nI M) ti be clk lL lC lF lW lM lB lH lR lD lG) 1 (wLw a v cI cZ cD ki pl tu le ch ca (nI N) tk th hu od (nI M) ti be clk lL lC lF lW lM lB lH lR lD lG) sz 4 24 := by
  refine Met.ofW (cc := cL_isRacked) (maxL := 14) (ret := (some .boolean)) (by decide) rfl ?_
  intro p e s m args below meth c s₁ B hml hv
  obtain ⟨rfl, ⟨hsz, hP, hK, hD0⟩, hH, hE⟩ := hv
  have hx := B.exec
  have hb := B.bytes
  have hr := B.returns
  have hts := atoms_spec (ws := wsL_isRacked) B.pre
  have hown : s.vm.findClass RL = some m.cls := findClass_of_methodNamed B.named
  have hlocks := B.notSynchronized
  subst hsz
  have hD := hD0.self (sz := s.heap.size)
  generalize hAe : va_A (wLw a v cI cZ cD ki pl tu le ch ca (nI N) tk th hu od (nI M) ti be clk lL lC lF lW lM lB lH lR lD lG) s.heap.size = A at hD hH ⊢
  have hA : ∀ q : Nat, s.heap.size ≤ q → A q := fun q h => by rw [← hAe]; exact Or.inr h
  have hS : va_S A s.heap s.heap [] := va_S.rf
  have hP : va_P (dC, dI) vwCl (wLw a v cI cZ cD ki pl tu le ch ca (nI N) tk th hu od (nI M) ti be clk lL lC lF lW lM lB lH lR lD lG) s.heap := hP
  have hl := lv_entry ([.ref (a 0), .ref (v 1), .ref (v 2), .ref (v 3), .ref (v 4), .ref (v 5), .ref (v 10)]) (n := 14) (Nat.le_of_ble_eq_true rfl)
  rw [lg_entry_eq]
  generalize (lg_sl ([.ref (a 0), .ref (v 1), .ref (v 2), .ref (v 3), .ref (v 4), .ref (v 5), .ref (v 10)]) ++ List.replicate (14 - (lg_sl ([.ref (a 0), .ref (v 1), .ref (v 2), .ref (v 3), .ref (v 4), .ref (v 5), .ref (v 10)])).length) Slot.unset).toArray = ls at hl ⊢
  have hl : lv_has ls 14 [(0, .ref (a 0)), (1, .ref (v 1)), (2, .ref (v 2)), (3, .ref (v 3)), (4, .ref (v 4)), (5, .ref (v 5)), (6, .ref (v 10))] := hl
  have hc_102 := hts (.constantDouble RL 102 (4636737291354636288)) (by decide +kernel)
  have hc_60 := hts (.constantDouble RL 60 (4621256167635550208)) (by decide +kernel)
  have hdc : Op.cmpValue (FP.dcmp 4626322717216342016 4626322717216342016) CmpOp.l = 0 := by decide +kernel
  have hd9 : Op.cmpValue (FP.dcmp 4626322717216342016 4621256167635550208) CmpOp.l = 1 := by decide +kernel
  have h99 : la_ge9 4626322717216342016 = true := by decide +kernel
  have hr0 : nI (zf_cnt (la_is ki pl ch 0) N) = 0 := by rw [zw_cnt0 N (fun j hj => by simp [la_is, hki j hj])]; rfl
  have hr1 : nI (zf_cnt (la_is ki pl ch 1) N) = 0 := by rw [zw_cnt0 N (fun j hj => by simp [la_is, hki j hj])]; rfl
  have hr2 : nI (zf_cnt (la_is ki pl ch 2) N) = nI N := by rw [zw_cntn N (fun j hj => by simp [la_is, la_rd, hki j hj, hpl j hj, hch j hj, h99])]
  have hsp : nI (zf_cnt (sp_a ki tk th) M) = 0 := by rw [zw_cnt0 M (fun j hj => by simp [sp_a, hth j hj])]; rfl
  have hrs : la_rc (la_sum pl ch N) (la_sum pl ca N) = la_rc (zh N) (zh N) := by rw [zw_sum N hpl hch, zw_sum N hpl hca]
  have zk := zn_K_mono (L := 2047) (zn_sum (pl := fun _ => 0) (f := fun _ => 4626322717216342016) (n := 40) (fun _ _ => zw_B20) (by omega) N (by omega)) (by omega)
  have zk : zn_K 2047 (zh N) := zk
  refine zq_dconst0 hx hb dL_isRacked_0 ?_
  refine lv_dstore (lv' := [(7, .double 0), (0, .ref (a 0)), (1, .ref (v 1)), (2, .ref (v 2)), (3, .ref (v 3)), (4, .ref (v 4)), (5, .ref (v 5)), (6, .ref (v 10))]) hx hb dL_isRacked_1 hl (by decide) rfl (fun ls hl => ?_)
  refine zq_dconst0 hx hb dL_isRacked_3 ?_
  refine lv_dstore (lv' := [(9, .double 0), (7, .double 0), (0, .ref (a 0)), (1, .ref (v 1)), (2, .ref (v 2)), (3, .ref (v 3)), (4, .ref (v 4)), (5, .ref (v 5)), (6, .ref (v 10))]) hx hb dL_isRacked_4 hl (by decide) rfl (fun ls hl => ?_)
  refine lv_iconst (v := 0) hx hb dL_isRacked_6 (by decide) ?_
  refine lv_istore (lv' := [(11, .int 0), (9, .double 0), (7, .double 0), (0, .ref (a 0)), (1, .ref (v 1)), (2, .ref (v 2)), (3, .ref (v 3)), (4, .ref (v 4)), (5, .ref (v 5)), (6, .ref (v 10))]) hx hb dL_isRacked_7 hl (by decide) rfl (fun ls hl => ?_)
  refine zq_loop 9 N (fun i H locs ls => va_P (dC, dI) vwCl (wLw a v cI cZ cD ki pl tu le ch ca (nI N) tk th hu od (nI M) ti be clk lL lC lF lW lM lB lH lR lD lG) H ∧ va_D A (wLw a v cI cZ cD ki pl tu le ch ca (nI N) tk th hu od (nI M) ti be clk lL lC lF lW lM lB lH lR lD lG) ∧ va_S A s.heap H locs ∧ lv_has ls 14 [(11, .int (nI i)), (7, .double (zh i)), (9, .double (zh i)), (0, .ref (a 0)), (1, .ref (v 1)), (2, .ref (v 2)), (3, .ref (v 3)), (4, .ref (v 4)), (5, .ref (v 5)), (6, .ref (v 10))]) ?_ 0 (by omega) _ _ _ ⟨hP, hD, hS, lv_sub hl [0, 2, 1, 3, 4, 5, 6, 7, 8, 9] rfl⟩
  intro i hi_i ih_i H locs ls hh
  obtain ⟨hP, hD, hS, hl⟩ := hh
  refine lv_iload hx hb dL_isRacked_9 (lv_at hl 0 rfl) ?_
  refine lv_aload hx hb dL_isRacked_11 (lv_at hl 9 rfl) ?_
  refine lv_iconst (v := 0) hx hb dL_isRacked_13 (by decide) ?_
  refine zq_iald hx hb hK hP 24 0 rfl rfl (j := 0) (by decide) (by decide) dL_isRacked_14 ?_
  rw [hg0]
  refine lv_icmp_ge (tgt := 122) hx hb dL_isRacked_15 (by decide) (fun c_0 => ?_) (fun c_0 => ?_)
  · have d_0 := (nI_leI (a := N) (b := i) (by omega) (by omega)).mp c_0
    have ei_i : i = N := by omega
    rw [ei_i] at hl
    refine lv_iconst (v := 0) hx hb dL_isRacked_122 (by decide) ?_
    refine lv_istore (lv' := [(11, .int 0), (7, .double (zh N)), (9, .double (zh N)), (0, .ref (a 0)), (1, .ref (v 1)), (2, .ref (v 2)), (3, .ref (v 3)), (4, .ref (v 4)), (5, .ref (v 5)), (6, .ref (v 10))]) hx hb dL_isRacked_123 hl (by decide) rfl (fun ls hl => ?_)
    refine lv_iload hx hb dL_isRacked_125 (lv_at hl 0 rfl) ?_
    refine lv_iconst (v := 3) hx hb dL_isRacked_127 (by decide) ?_
    refine lv_icmp_ge (tgt := 204) hx hb dL_isRacked_128 (by decide) (fun c => absurd c (by decide)) (fun _ => ?_)
    refine lv_iconst (v := 0) hx hb dL_isRacked_131 (by decide) ?_
    refine lv_istore (lv' := [(12, .int 0), (11, .int 0), (7, .double (zh N)), (9, .double (zh N)), (0, .ref (a 0)), (1, .ref (v 1)), (2, .ref (v 2)), (3, .ref (v 3)), (4, .ref (v 4)), (5, .ref (v 5)), (6, .ref (v 10))]) hx hb dL_isRacked_132 hl (by decide) rfl (fun ls hl => ?_)
    refine lv_iconst (v := 0) hx hb dL_isRacked_134 (by decide) ?_
    refine lv_istore (lv' := [(13, .int 0), (12, .int 0), (11, .int 0), (7, .double (zh N)), (9, .double (zh N)), (0, .ref (a 0)), (1, .ref (v 1)), (2, .ref (v 2)), (3, .ref (v 3)), (4, .ref (v 4)), (5, .ref (v 5)), (6, .ref (v 10))]) hx hb dL_isRacked_135 hl (by decide) rfl (fun ls hl => ?_)
    refine zq_loop 137 N (fun k0 H locs ls => va_P (dC, dI) vwCl (wLw a v cI cZ cD ki pl tu le ch ca (nI N) tk th hu od (nI M) ti be clk lL lC lF lW lM lB lH lR lD lG) H ∧ va_D A (wLw a v cI cZ cD ki pl tu le ch ca (nI N) tk th hu od (nI M) ti be clk lL lC lF lW lM lB lH lR lD lG) ∧ va_S A s.heap H locs ∧ lv_has ls 14 [(12, .int 0), (13, .int (nI k0)), (11, .int 0), (7, .double (zh N)), (9, .double (zh N)), (0, .ref (a 0)), (1, .ref (v 1)), (2, .ref (v 2)), (3, .ref (v 3)), (4, .ref (v 4)), (5, .ref (v 5)), (6, .ref (v 10))]) ?_ 0 (by omega) _ _ _ ⟨hP, hD, hS, lv_sub hl [1, 0, 2, 3, 4, 5, 6, 7, 8, 9, 10, 11] rfl⟩
    intro k0 hi_k0 ih_k0 H locs ls hh
    obtain ⟨hP, hD, hS, hl⟩ := hh
    refine lv_iload hx hb dL_isRacked_137 (lv_at hl 1 rfl) ?_
    refine lv_aload hx hb dL_isRacked_139 (lv_at hl 11 rfl) ?_
    refine lv_iconst (v := 0) hx hb dL_isRacked_141 (by decide) ?_
    refine zq_iald hx hb hK hP 24 0 rfl rfl (j := 0) (by decide) (by decide) dL_isRacked_142 ?_
    rw [hg0]
    refine lv_icmp_ge (tgt := 185) hx hb dL_isRacked_143 (by decide) (fun c_1 => ?_) (fun c_1 => ?_)
    · have d_1 := (nI_leI (a := N) (b := k0) (by omega) (by omega)).mp c_1
      have ei_k0 : k0 = N := by omega
      refine lv_aload_n hx hb dL_isRacked_185 rfl (lv_at hl 5 rfl) ?_
      refine lv_iload hx hb dL_isRacked_186 (lv_at hl 2 rfl) ?_
      refine zq_cWi (As := [.ref (a 0), .int 0]) (rest := []) (wc := (wRo a cI cZ cD ki pl tu le ch ca (nI N) tk th hu od (nI M) ti be clk)) (w1 := (wRo a cI cZ cD ki pl tu le ch ca (nI N) tk th hu od (nI M) ti be clk)) (wr := (wAr v cI cD lL lC lF lW lM lB lH lR lD lG)) (ws' := (wLw a v cI cZ cD ki pl tu le ch ca (nI N) tk th hu od (nI M) ti be clk lL lC lF lW lM lB lH lR lD lG)) ⟨hx, hb, hml, hown, hts⟩ (c_L_ready_ok l dC dI a cI cZ cD ki pl tu le ch ca N tk th hu od M ti be clk (by omega) (by omega) 0 (by decide +kernel) H.size) (vx_cwSW 2 hts gL_isRacked_L_ready rfl rfl rfl (by decide +kernel) ⟨Nat.le_of_ble_eq_true rfl, Nat.le_of_ble_eq_true rfl⟩) hK hP hD hS hA [0, 1, 2, 3, 4, 5, 6, 7, 8, 9, 10, 11, 12, 13, 14] [15, 16, 17, 18, 19, 20, 21, 22, 23, 24] [10, 11, 12, 13, 14, 15, 16, 17, 18, 19, 20, 21, 22, 23, 24, 0, 1, 2, 3, 4, 5, 6, 7, 8, 9] rfl rfl rfl rfl (by decide) rfl rfl rfl hl.1 rfl (Nat.le_of_ble_eq_true rfl) dL_isRacked_188 ⟨Nat.le_of_ble_eq_true rfl, Nat.le_of_ble_eq_true rfl⟩ (fun H locs hP hD hS => ?_)
      rw [hr0]
      refine lv_iload hx hb dL_isRacked_191 (lv_at hl 0 rfl) ?_
      refine lv_icmp_eq (tgt := 198) hx hb dL_isRacked_193 (by decide) (fun _ => ?_) (fun c => absurd c (by decide))
      refine lv_iinc (v := 1) (lv' := [(11, .int 1), (12, .int 0), (13, .int (nI k0)), (7, .double (zh N)), (9, .double (zh N)), (0, .ref (a 0)), (1, .ref (v 1)), (2, .ref (v 2)), (3, .ref (v 3)), (4, .ref (v 4)), (5, .ref (v 5)), (6, .ref (v 10))]) hx hb dL_isRacked_198 hl (k := 2) rfl (rfl) (by decide) rfl (fun ls hl => ?_)
      refine lv_goto (tgt := 125) hx hb dL_isRacked_201 (by decide) ?_
      refine lv_iload hx hb dL_isRacked_125 (lv_at hl 0 rfl) ?_
      refine lv_iconst (v := 3) hx hb dL_isRacked_127 (by decide) ?_
      refine lv_icmp_ge (tgt := 204) hx hb dL_isRacked_128 (by decide) (fun c => absurd c (by decide)) (fun _ => ?_)
      refine lv_iconst (v := 0) hx hb dL_isRacked_131 (by decide) ?_
      refine lv_istore (lv' := [(12, .int 0), (11, .int 1), (13, .int (nI k0)), (7, .double (zh N)), (9, .double (zh N)), (0, .ref (a 0)), (1, .ref (v 1)), (2, .ref (v 2)), (3, .ref (v 3)), (4, .ref (v 4)), (5, .ref (v 5)), (6, .ref (v 10))]) hx hb dL_isRacked_132 hl (by decide) rfl (fun ls hl => ?_)
      refine lv_iconst (v := 0) hx hb dL_isRacked_134 (by decide) ?_
      refine lv_istore (lv' := [(13, .int 0), (12, .int 0), (11, .int 1), (7, .double (zh N)), (9, .double (zh N)), (0, .ref (a 0)), (1, .ref (v 1)), (2, .ref (v 2)), (3, .ref (v 3)), (4, .ref (v 4)), (5, .ref (v 5)), (6, .ref (v 10))]) hx hb dL_isRacked_135 hl (by decide) rfl (fun ls hl => ?_)
      refine zq_loop 137 N (fun k1 H locs ls => va_P (dC, dI) vwCl (wLw a v cI cZ cD ki pl tu le ch ca (nI N) tk th hu od (nI M) ti be clk lL lC lF lW lM lB lH lR lD lG) H ∧ va_D A (wLw a v cI cZ cD ki pl tu le ch ca (nI N) tk th hu od (nI M) ti be clk lL lC lF lW lM lB lH lR lD lG) ∧ va_S A s.heap H locs ∧ lv_has ls 14 [(12, .int 0), (13, .int (nI k1)), (11, .int 1), (7, .double (zh N)), (9, .double (zh N)), (0, .ref (a 0)), (1, .ref (v 1)), (2, .ref (v 2)), (3, .ref (v 3)), (4, .ref (v 4)), (5, .ref (v 5)), (6, .ref (v 10))]) ?_ 0 (by omega) _ _ _ ⟨hP, hD, hS, lv_sub hl [1, 0, 2, 3, 4, 5, 6, 7, 8, 9, 10, 11] rfl⟩
      intro k1 hi_k1 ih_k1 H locs ls hh
      obtain ⟨hP, hD, hS, hl⟩ := hh
      refine lv_iload hx hb dL_isRacked_137 (lv_at hl 1 rfl) ?_
      refine lv_aload hx hb dL_isRacked_139 (lv_at hl 11 rfl) ?_
      refine lv_iconst (v := 0) hx hb dL_isRacked_141 (by decide) ?_
      refine zq_iald hx hb hK hP 24 0 rfl rfl (j := 0) (by decide) (by decide) dL_isRacked_142 ?_
      rw [hg0]
      refine lv_icmp_ge (tgt := 185) hx hb dL_isRacked_143 (by decide) (fun c_2 => ?_) (fun c_2 => ?_)
      · have d_2 := (nI_leI (a := N) (b := k1) (by omega) (by omega)).mp c_2
        have ei_k1 : k1 = N := by omega
        refine lv_aload_n hx hb dL_isRacked_185 rfl (lv_at hl 5 rfl) ?_
        refine lv_iload hx hb dL_isRacked_186 (lv_at hl 2 rfl) ?_
        refine zq_cWi (As := [.ref (a 0), .int 1]) (rest := []) (wc := (wRo a cI cZ cD ki pl tu le ch ca (nI N) tk th hu od (nI M) ti be clk)) (w1 := (wRo a cI cZ cD ki pl tu le ch ca (nI N) tk th hu od (nI M) ti be clk)) (wr := (wAr v cI cD lL lC lF lW lM lB lH lR lD lG)) (ws' := (wLw a v cI cZ cD ki pl tu le ch ca (nI N) tk th hu od (nI M) ti be clk lL lC lF lW lM lB lH lR lD lG)) ⟨hx, hb, hml, hown, hts⟩ (c_L_ready_ok l dC dI a cI cZ cD ki pl tu le ch ca N tk th hu od M ti be clk (by omega) (by omega) 1 (by decide +kernel) H.size) (vx_cwSW 2 hts gL_isRacked_L_ready rfl rfl rfl (by decide +kernel) ⟨Nat.le_of_ble_eq_true rfl, Nat.le_of_ble_eq_true rfl⟩) hK hP hD hS hA [0, 1, 2, 3, 4, 5, 6, 7, 8, 9, 10, 11, 12, 13, 14] [15, 16, 17, 18, 19, 20, 21, 22, 23, 24] [10, 11, 12, 13, 14, 15, 16, 17, 18, 19, 20, 21, 22, 23, 24, 0, 1, 2, 3, 4, 5, 6, 7, 8, 9] rfl rfl rfl rfl (by decide) rfl rfl rfl hl.1 rfl (Nat.le_of_ble_eq_true rfl) dL_isRacked_188 ⟨Nat.le_of_ble_eq_true rfl, Nat.le_of_ble_eq_true rfl⟩ (fun H locs hP hD hS => ?_)
        rw [hr1]
        refine lv_iload hx hb dL_isRacked_191 (lv_at hl 0 rfl) ?_
        refine lv_icmp_eq (tgt := 198) hx hb dL_isRacked_193 (by decide) (fun _ => ?_) (fun c => absurd c (by decide))
        refine lv_iinc (v := 2) (lv' := [(11, .int 2), (12, .int 0), (13, .int (nI k1)), (7, .double (zh N)), (9, .double (zh N)), (0, .ref (a 0)), (1, .ref (v 1)), (2, .ref (v 2)), (3, .ref (v 3)), (4, .ref (v 4)), (5, .ref (v 5)), (6, .ref (v 10))]) hx hb dL_isRacked_198 hl (k := 2) rfl (rfl) (by decide) rfl (fun ls hl => ?_)
        refine lv_goto (tgt := 125) hx hb dL_isRacked_201 (by decide) ?_
        refine lv_iload hx hb dL_isRacked_125 (lv_at hl 0 rfl) ?_
        refine lv_iconst (v := 3) hx hb dL_isRacked_127 (by decide) ?_
        refine lv_icmp_ge (tgt := 204) hx hb dL_isRacked_128 (by decide) (fun c => absurd c (by decide)) (fun _ => ?_)
        refine lv_iconst (v := 0) hx hb dL_isRacked_131 (by decide) ?_
        refine lv_istore (lv' := [(12, .int 0), (11, .int 2), (13, .int (nI k1)), (7, .double (zh N)), (9, .double (zh N)), (0, .ref (a 0)), (1, .ref (v 1)), (2, .ref (v 2)), (3, .ref (v 3)), (4, .ref (v 4)), (5, .ref (v 5)), (6, .ref (v 10))]) hx hb dL_isRacked_132 hl (by decide) rfl (fun ls hl => ?_)
        refine lv_iconst (v := 0) hx hb dL_isRacked_134 (by decide) ?_
        refine lv_istore (lv' := [(13, .int 0), (12, .int 0), (11, .int 2), (7, .double (zh N)), (9, .double (zh N)), (0, .ref (a 0)), (1, .ref (v 1)), (2, .ref (v 2)), (3, .ref (v 3)), (4, .ref (v 4)), (5, .ref (v 5)), (6, .ref (v 10))]) hx hb dL_isRacked_135 hl (by decide) rfl (fun ls hl => ?_)
        refine zq_loop 137 N (fun k2 H locs ls => va_P (dC, dI) vwCl (wLw a v cI cZ cD ki pl tu le ch ca (nI N) tk th hu od (nI M) ti be clk lL lC lF lW lM lB lH lR lD lG) H ∧ va_D A (wLw a v cI cZ cD ki pl tu le ch ca (nI N) tk th hu od (nI M) ti be clk lL lC lF lW lM lB lH lR lD lG) ∧ va_S A s.heap H locs ∧ lv_has ls 14 [(12, .int (nI k2)), (13, .int (nI k2)), (11, .int 2), (7, .double (zh N)), (9, .double (zh N)), (0, .ref (a 0)), (1, .ref (v 1)), (2, .ref (v 2)), (3, .ref (v 3)), (4, .ref (v 4)), (5, .ref (v 5)), (6, .ref (v 10))]) ?_ 0 (by omega) _ _ _ ⟨hP, hD, hS, lv_sub hl [1, 0, 2, 3, 4, 5, 6, 7, 8, 9, 10, 11] rfl⟩
        intro k2 hi_k2 ih_k2 H locs ls hh
        obtain ⟨hP, hD, hS, hl⟩ := hh
        refine lv_iload hx hb dL_isRacked_137 (lv_at hl 1 rfl) ?_
        refine lv_aload hx hb dL_isRacked_139 (lv_at hl 11 rfl) ?_
        refine lv_iconst (v := 0) hx hb dL_isRacked_141 (by decide) ?_
        refine zq_iald hx hb hK hP 24 0 rfl rfl (j := 0) (by decide) (by decide) dL_isRacked_142 ?_
        rw [hg0]
        refine lv_icmp_ge (tgt := 185) hx hb dL_isRacked_143 (by decide) (fun c_3 => ?_) (fun c_3 => ?_)
        · have d_3 := (nI_leI (a := N) (b := k2) (by omega) (by omega)).mp c_3
          have ei_k2 : k2 = N := by omega
          refine lv_aload_n hx hb dL_isRacked_185 rfl (lv_at hl 5 rfl) ?_
          refine lv_iload hx hb dL_isRacked_186 (lv_at hl 2 rfl) ?_
          refine zq_cWi (As := [.ref (a 0), .int 2]) (rest := []) (wc := (wRo a cI cZ cD ki pl tu le ch ca (nI N) tk th hu od (nI M) ti be clk)) (w1 := (wRo a cI cZ cD ki pl tu le ch ca (nI N) tk th hu od (nI M) ti be clk)) (wr := (wAr v cI cD lL lC lF lW lM lB lH lR lD lG)) (ws' := (wLw a v cI cZ cD ki pl tu le ch ca (nI N) tk th hu od (nI M) ti be clk lL lC lF lW lM lB lH lR lD lG)) ⟨hx, hb, hml, hown, hts⟩ (c_L_ready_ok l dC dI a cI cZ cD ki pl tu le ch ca N tk th hu od M ti be clk (by omega) (by omega) 2 (by decide +kernel) H.size) (vx_cwSW 2 hts gL_isRacked_L_ready rfl rfl rfl (by decide +kernel) ⟨Nat.le_of_ble_eq_true rfl, Nat.le_of_ble_eq_true rfl⟩) hK hP hD hS hA [0, 1, 2, 3, 4, 5, 6, 7, 8, 9, 10, 11, 12, 13, 14] [15, 16, 17, 18, 19, 20, 21, 22, 23, 24] [10, 11, 12, 13, 14, 15, 16, 17, 18, 19, 20, 21, 22, 23, 24, 0, 1, 2, 3, 4, 5, 6, 7, 8, 9] rfl rfl rfl rfl (by decide) rfl rfl rfl hl.1 rfl (Nat.le_of_ble_eq_true rfl) dL_isRacked_188 ⟨Nat.le_of_ble_eq_true rfl, Nat.le_of_ble_eq_true rfl⟩ (fun H locs hP hD hS => ?_)
          rw [hr2]
          refine lv_iload hx hb dL_isRacked_191 (lv_at hl 0 rfl) ?_
          refine lv_icmp_eq (tgt := 198) hx hb dL_isRacked_193 (by decide) (fun c_4 => ?_) (fun c_4 => ?_)
          · have d_4 := (nI_eq (a := N) (b := k2) (by omega) (by omega)).mp c_4
            refine lv_iinc (v := 3) (lv' := [(11, .int 3), (12, .int (nI k2)), (13, .int (nI k2)), (7, .double (zh N)), (9, .double (zh N)), (0, .ref (a 0)), (1, .ref (v 1)), (2, .ref (v 2)), (3, .ref (v 3)), (4, .ref (v 4)), (5, .ref (v 5)), (6, .ref (v 10))]) hx hb dL_isRacked_198 hl (k := 2) rfl (rfl) (by decide) rfl (fun ls hl => ?_)
            refine lv_goto (tgt := 125) hx hb dL_isRacked_201 (by decide) ?_
            refine lv_iload hx hb dL_isRacked_125 (lv_at hl 0 rfl) ?_
            refine lv_iconst (v := 3) hx hb dL_isRacked_127 (by decide) ?_
            refine lv_icmp_ge (tgt := 204) hx hb dL_isRacked_128 (by decide) (fun _ => ?_) (fun c => absurd c (by decide))
            refine lv_iconst (v := 0) hx hb dL_isRacked_204 (by decide) ?_
            refine lv_istore (lv' := [(11, .int 0), (12, .int (nI k2)), (13, .int (nI k2)), (7, .double (zh N)), (9, .double (zh N)), (0, .ref (a 0)), (1, .ref (v 1)), (2, .ref (v 2)), (3, .ref (v 3)), (4, .ref (v 4)), (5, .ref (v 5)), (6, .ref (v 10))]) hx hb dL_isRacked_205 hl (by decide) rfl (fun ls hl => ?_)
            refine lv_iconst (v := 0) hx hb dL_isRacked_207 (by decide) ?_
            refine lv_istore (lv' := [(12, .int 0), (11, .int 0), (13, .int (nI k2)), (7, .double (zh N)), (9, .double (zh N)), (0, .ref (a 0)), (1, .ref (v 1)), (2, .ref (v 2)), (3, .ref (v 3)), (4, .ref (v 4)), (5, .ref (v 5)), (6, .ref (v 10))]) hx hb dL_isRacked_208 hl (by decide) rfl (fun ls hl => ?_)
            refine zq_loop 210 M (fun j2 H locs ls => va_P (dC, dI) vwCl (wLw a v cI cZ cD ki pl tu le ch ca (nI N) tk th hu od (nI M) ti be clk lL lC lF lW lM lB lH lR lD lG) H ∧ va_D A (wLw a v cI cZ cD ki pl tu le ch ca (nI N) tk th hu od (nI M) ti be clk lL lC lF lW lM lB lH lR lD lG) ∧ va_S A s.heap H locs ∧ lv_has ls 14 [(11, .int 0), (12, .int (nI j2)), (7, .double (zh N)), (9, .double (zh N)), (0, .ref (a 0)), (1, .ref (v 1)), (2, .ref (v 2)), (3, .ref (v 3)), (4, .ref (v 4)), (5, .ref (v 5)), (6, .ref (v 10))]) ?_ 0 (by omega) _ _ _ ⟨hP, hD, hS, lv_sub hl [1, 0, 3, 4, 5, 6, 7, 8, 9, 10, 11] rfl⟩
            intro j2 hi_j2 ih_j2 H locs ls hh
            obtain ⟨hP, hD, hS, hl⟩ := hh
            refine lv_iload hx hb dL_isRacked_210 (lv_at hl 1 rfl) ?_
            refine lv_aload hx hb dL_isRacked_212 (lv_at hl 10 rfl) ?_
            refine lv_iconst (v := 1) hx hb dL_isRacked_214 (by decide) ?_
            refine zq_iald hx hb hK hP 24 0 rfl rfl (j := 1) (by decide) (by decide) dL_isRacked_215 ?_
            rw [hg1]
            refine lv_icmp_ge (tgt := 295) hx hb dL_isRacked_216 (by decide) (fun c_5 => ?_) (fun c_5 => ?_)
            · have d_5 := (nI_leI (a := M) (b := j2) (by omega) (by omega)).mp c_5
              have ei_j2 : j2 = M := by omega
              refine lv_aload_n hx hb dL_isRacked_295 rfl (lv_at hl 4 rfl) ?_
              refine zq_cVi (As := []) (rest := []) (wc := (wRo a cI cZ cD ki pl tu le ch ca (nI N) tk th hu od (nI M) ti be clk)) (w1 := (wRo a cI cZ cD ki pl tu le ch ca (nI N) tk th hu od (nI M) ti be clk)) (wr := (wAr v cI cD lL lC lF lW lM lB lH lR lD lG)) (ws' := (wLw a v cI cZ cD ki pl tu le ch ca (nI N) tk th hu od (nI M) ti be clk lL lC lF lW lM lB lH lR lD lG)) ⟨hx, hb, hml, hown, hts⟩ (c_X3_spares l dC dI a cI cZ cD ki pl tu le ch ca N tk th hu od M ti be clk (by omega) (by omega) (fun mi hm q => absurd (hth mi hm) q) H.size) (cwV 0 hts gL_isRacked_X3_spares rfl rfl rfl (by decide +kernel) ⟨Nat.le_of_ble_eq_true rfl, Nat.le_of_ble_eq_true rfl⟩) hK hP hD hS hA [0, 1, 2, 3, 4, 5, 6, 7, 8, 9, 10, 11, 12, 13, 14] [15, 16, 17, 18, 19, 20, 21, 22, 23, 24] [10, 11, 12, 13, 14, 15, 16, 17, 18, 19, 20, 21, 22, 23, 24, 0, 1, 2, 3, 4, 5, 6, 7, 8, 9] rfl rfl rfl rfl (by decide) rfl rfl (ci := 3) rfl 0 rfl rfl hl.1 rfl (Nat.le_of_ble_eq_true rfl) dL_isRacked_296 ⟨Nat.le_of_ble_eq_true rfl, Nat.le_of_ble_eq_true rfl⟩ (fun H locs hP hD hS => ?_)
              rw [hsp]
              refine lv_iload hx hb dL_isRacked_299 (lv_at hl 0 rfl) ?_
              refine lv_icmp_ne (tgt := 379) hx hb dL_isRacked_301 (by decide) (fun c => absurd c (by decide)) (fun _ => ?_)
              refine lv_aload_n hx hb dL_isRacked_304 rfl (lv_at hl 4 rfl) ?_
              refine zq_cVi (As := []) (rest := []) (wc := (wRo a cI cZ cD ki pl tu le ch ca (nI N) tk th hu od (nI M) ti be clk)) (w1 := (wRo a cI cZ cD ki pl tu le ch ca (nI N) tk th hu od (nI M) ti be clk)) (wr := (wAr v cI cD lL lC lF lW lM lB lH lR lD lG)) (ws' := (wLw a v cI cZ cD ki pl tu le ch ca (nI N) tk th hu od (nI M) ti be clk lL lC lF lW lM lB lH lR lD lG)) ⟨hx, hb, hml, hown, hts⟩ (c_X3_rackCharge l dC dI a cI cZ cD ki pl tu le ch ca N tk th hu od M ti be clk (by omega) (by omega) (hp) (hc) H.size) (cwV 0 hts gL_isRacked_X3_rackCharge rfl rfl rfl (by decide +kernel) ⟨Nat.le_of_ble_eq_true rfl, Nat.le_of_ble_eq_true rfl⟩) hK hP hD hS hA [0, 1, 2, 3, 4, 5, 6, 7, 8, 9, 10, 11, 12, 13, 14] [15, 16, 17, 18, 19, 20, 21, 22, 23, 24] [10, 11, 12, 13, 14, 15, 16, 17, 18, 19, 20, 21, 22, 23, 24, 0, 1, 2, 3, 4, 5, 6, 7, 8, 9] rfl rfl rfl rfl (by decide) rfl rfl (ci := 3) rfl 0 rfl rfl hl.1 rfl (Nat.le_of_ble_eq_true rfl) dL_isRacked_305 ⟨Nat.le_of_ble_eq_true rfl, Nat.le_of_ble_eq_true rfl⟩ (fun H locs hP hD hS => ?_)
              rw [hrs]
              refine lv_dload hx hb dL_isRacked_308 (lv_at hl 3 rfl) ?_
              refine zq_dconst0 hx hb dL_isRacked_310 ?_
              refine lv_dcmp hx hb dL_isRacked_311 ?_
              refine lv_if_ne (tgt := 319) hx hb dL_isRacked_312 (by decide) (fun c_6 => ?_) (fun c_6 => ?_)
              · have hk0 : ¬ (zh N).toNat = 0 := fun q => c_6 (of_decide_eq_true ((fz_eq0 (Nat.le_of_lt (zn_K_le zk (by decide)))).mpr q))
                have hg9 := (fz_gt0 (Nat.le_of_lt (zn_K_le zk (by decide)))).mpr hk0
                refine lv_dload hx hb dL_isRacked_319 (lv_at hl 2 rfl) ?_
                refine lv_dload hx hb dL_isRacked_321 (lv_at hl 3 rfl) ?_
                refine lv_ddiv hx hb dL_isRacked_323 (zn_of_ne (zn_divn zk zk (by decide) hk0).1) ?_
                refine lv_ldc2d hx hb hown hc_102 dL_isRacked_324 ?_
                refine lv_dmul hx hb dL_isRacked_327 (zn_of_ne (zn_divn zk zk (by decide) hk0).2) ?_
                refine lv_d2i hx hb dL_isRacked_328 ?_
                rw [show la_rc (zh N) (zh N) = FP.d2i (FP.dmul (FP.ddiv (zh N) (zh N)) 4636737291354636288) from by rw [la_rc, if_pos hg9]]
                refine lv_icmp_ne (tgt := 379) hx hb dL_isRacked_329 (by decide) (fun c_7 => ?_) (fun c_7 => ?_)
                · exact absurd rfl c_7
                · refine lv_aload_n hx hb dL_isRacked_332 rfl (lv_at hl 4 rfl) ?_
                  refine lv_aload hx hb dL_isRacked_333 (lv_at hl 10 rfl) ?_
                  refine lv_iconst (v := 0) hx hb dL_isRacked_335 (by decide) ?_
                  refine zq_iald hx hb hK hP 24 0 rfl rfl (j := 0) (by decide) (by decide) dL_isRacked_336 ?_
                  rw [hg0]
                  refine zl_cWi (As := [.ref (a 0), .int (nI N)]) (rest := []) (wc := (wRo a cI cZ cD ki pl tu le ch ca (nI N) tk th hu od (nI M) ti be clk)) (wr := (wAr v cI cD lL lC lF lW lM lB lH lR lD lG)) ⟨hx, hb, hml, hown, hts⟩ (c_L_placeOf_bad l hl0 dC dI a cI cZ cD ki pl tu le ch ca N tk th hu od M ti be clk (by omega) (by omega) (nI N) (zw_top (by omega)) H.size) (vx_cwSW 2 hts gL_isRacked_L_placeOf rfl rfl rfl (by decide +kernel) ⟨Nat.le_of_ble_eq_true rfl, Nat.le_of_ble_eq_true rfl⟩) hK hP hD hS hA (hH.kept hS.2.1) hE [0, 1, 2, 3, 4, 5, 6, 7, 8, 9, 10, 11, 12, 13, 14] [15, 16, 17, 18, 19, 20, 21, 22, 23, 24] [10, 11, 12, 13, 14, 15, 16, 17, 18, 19, 20, 21, 22, 23, 24, 0, 1, 2, 3, 4, 5, 6, 7, 8, 9] rfl rfl rfl rfl (by decide) rfl rfl rfl hl.1 rfl (Nat.le_of_ble_eq_true rfl) dL_isRacked_337 ⟨Nat.le_of_ble_eq_true rfl, Nat.le_of_ble_eq_true rfl⟩ (fun H locs hP hD hS hG => ?_)
                  refine lv_bipush (v := (-61)) hx hb dL_isRacked_340 (by decide) ?_
                  refine lv_icmp_ne (tgt := 379) hx hb dL_isRacked_342 (by decide) (fun c => absurd c (by decide)) (fun _ => ?_)
                  refine lv_aload_n hx hb dL_isRacked_345 rfl (lv_at hl 4 rfl) ?_
                  refine lv_iconst (v := (-1)) hx hb dL_isRacked_346 (by decide) ?_
                  refine zl_cWi (As := [.ref (a 0), .int (-1)]) (rest := []) (wc := (wRo a cI cZ cD ki pl tu le ch ca (nI N) tk th hu od (nI M) ti be clk)) (wr := (wAr v cI cD lL lC lF lW lM lB lH lR lD lG)) ⟨hx, hb, hml, hown, hts⟩ (c_L_placeOf_bad l hl0 dC dI a cI cZ cD ki pl tu le ch ca N tk th hu od M ti be clk (by omega) (by omega) (-1) (zw_m1) H.size) (vx_cwSW 2 hts gL_isRacked_L_placeOf rfl rfl rfl (by decide +kernel) ⟨Nat.le_of_ble_eq_true rfl, Nat.le_of_ble_eq_true rfl⟩) hK hP hD hS hA (hH.kept hS.2.1) hE [0, 1, 2, 3, 4, 5, 6, 7, 8, 9, 10, 11, 12, 13, 14] [15, 16, 17, 18, 19, 20, 21, 22, 23, 24] [10, 11, 12, 13, 14, 15, 16, 17, 18, 19, 20, 21, 22, 23, 24, 0, 1, 2, 3, 4, 5, 6, 7, 8, 9] rfl rfl rfl rfl (by decide) rfl rfl rfl hl.1 rfl (Nat.le_of_ble_eq_true rfl) dL_isRacked_347 ⟨Nat.le_of_ble_eq_true rfl, Nat.le_of_ble_eq_true rfl⟩ (fun H locs hP hD hS hG => ?_)
                  refine lv_bipush (v := (-61)) hx hb dL_isRacked_350 (by decide) ?_
                  refine lv_icmp_ne (tgt := 379) hx hb dL_isRacked_352 (by decide) (fun c => absurd c (by decide)) (fun _ => ?_)
                  refine lv_aload_n hx hb dL_isRacked_355 rfl (lv_at hl 4 rfl) ?_
                  refine lv_iconst (v := 3) hx hb dL_isRacked_356 (by decide) ?_
                  refine zl_cWi (As := [.ref (a 0), .int 3]) (rest := []) (wc := (wRo a cI cZ cD ki pl tu le ch ca (nI N) tk th hu od (nI M) ti be clk)) (wr := (wAr v cI cD lL lC lF lW lM lB lH lR lD lG)) ⟨hx, hb, hml, hown, hts⟩ (c_L_ready_bad l hl0 dC dI a cI cZ cD ki pl tu le ch ca N tk th hu od M ti be clk (by omega) (by omega) 3 (by decide +kernel) H.size) (vx_cwSW 2 hts gL_isRacked_L_ready rfl rfl rfl (by decide +kernel) ⟨Nat.le_of_ble_eq_true rfl, Nat.le_of_ble_eq_true rfl⟩) hK hP hD hS hA (hH.kept hS.2.1) hE [0, 1, 2, 3, 4, 5, 6, 7, 8, 9, 10, 11, 12, 13, 14] [15, 16, 17, 18, 19, 20, 21, 22, 23, 24] [10, 11, 12, 13, 14, 15, 16, 17, 18, 19, 20, 21, 22, 23, 24, 0, 1, 2, 3, 4, 5, 6, 7, 8, 9] rfl rfl rfl rfl (by decide) rfl rfl rfl hl.1 rfl (Nat.le_of_ble_eq_true rfl) dL_isRacked_357 ⟨Nat.le_of_ble_eq_true rfl, Nat.le_of_ble_eq_true rfl⟩ (fun H locs hP hD hS hG => ?_)
                  refine lv_bipush (v := (-62)) hx hb dL_isRacked_360 (by decide) ?_
                  refine lv_icmp_ne (tgt := 379) hx hb dL_isRacked_362 (by decide) (fun c => absurd c (by decide)) (fun _ => ?_)
                  refine lv_aload_n hx hb dL_isRacked_365 rfl (lv_at hl 4 rfl) ?_
                  refine lv_iconst (v := (-1)) hx hb dL_isRacked_366 (by decide) ?_
                  refine zl_cWi (As := [.ref (a 0), .int (-1)]) (rest := []) (wc := (wRo a cI cZ cD ki pl tu le ch ca (nI N) tk th hu od (nI M) ti be clk)) (wr := (wAr v cI cD lL lC lF lW lM lB lH lR lD lG)) ⟨hx, hb, hml, hown, hts⟩ (c_L_ready_bad l hl0 dC dI a cI cZ cD ki pl tu le ch ca N tk th hu od M ti be clk (by omega) (by omega) (-1) (by decide +kernel) H.size) (vx_cwSW 2 hts gL_isRacked_L_ready rfl rfl rfl (by decide +kernel) ⟨Nat.le_of_ble_eq_true rfl, Nat.le_of_ble_eq_true rfl⟩) hK hP hD hS hA (hH.kept hS.2.1) hE [0, 1, 2, 3, 4, 5, 6, 7, 8, 9, 10, 11, 12, 13, 14] [15, 16, 17, 18, 19, 20, 21, 22, 23, 24] [10, 11, 12, 13, 14, 15, 16, 17, 18, 19, 20, 21, 22, 23, 24, 0, 1, 2, 3, 4, 5, 6, 7, 8, 9] rfl rfl rfl rfl (by decide) rfl rfl rfl hl.1 rfl (Nat.le_of_ble_eq_true rfl) dL_isRacked_367 ⟨Nat.le_of_ble_eq_true rfl, Nat.le_of_ble_eq_true rfl⟩ (fun H locs hP hD hS hG => ?_)
                  refine lv_bipush (v := (-62)) hx hb dL_isRacked_370 (by decide) ?_
                  refine lv_icmp_ne (tgt := 379) hx hb dL_isRacked_372 (by decide) (fun c => absurd c (by decide)) (fun _ => ?_)
                  refine lv_iconst (v := 1) hx hb dL_isRacked_375 (by decide) ?_
                  refine lv_goto (tgt := 380) hx hb dL_isRacked_376 (by decide) ?_
                  exact W.zret (v := 1) hx hb hr (by rfl) (zg_qi rfl hP hK hD hS hG) hS.2.2 dL_isRacked_380
              · refine lv_iconst (v := 0) hx hb dL_isRacked_315 (by decide) ?_
                refine lv_goto (tgt := 329) hx hb dL_isRacked_316 (by decide) ?_
                have hk0 : (zh N).toNat = 0 := (fz_eq0 (Nat.le_of_lt (zn_K_le zk (by decide)))).mp (decide_eq_true c_6)
                have hg9 : ¬ la_gt (zh N) 0 = true := fun q => (fz_gt0 (Nat.le_of_lt (zn_K_le zk (by decide)))).mp q hk0
                rw [show la_rc (zh N) (zh N) = 0 from by rw [la_rc, if_neg hg9]]
                refine lv_icmp_ne (tgt := 379) hx hb dL_isRacked_329 (by decide) (fun c => absurd c (by decide)) (fun _ => ?_)
                refine lv_aload_n hx hb dL_isRacked_332 rfl (lv_at hl 4 rfl) ?_
                refine lv_aload hx hb dL_isRacked_333 (lv_at hl 10 rfl) ?_
                refine lv_iconst (v := 0) hx hb dL_isRacked_335 (by decide) ?_
                refine zq_iald hx hb hK hP 24 0 rfl rfl (j := 0) (by decide) (by decide) dL_isRacked_336 ?_
                rw [hg0]
                refine zl_cWi (As := [.ref (a 0), .int (nI N)]) (rest := []) (wc := (wRo a cI cZ cD ki pl tu le ch ca (nI N) tk th hu od (nI M) ti be clk)) (wr := (wAr v cI cD lL lC lF lW lM lB lH lR lD lG)) ⟨hx, hb, hml, hown, hts⟩ (c_L_placeOf_bad l hl0 dC dI a cI cZ cD ki pl tu le ch ca N tk th hu od M ti be clk (by omega) (by omega) (nI N) (zw_top (by omega)) H.size) (vx_cwSW 2 hts gL_isRacked_L_placeOf rfl rfl rfl (by decide +kernel) ⟨Nat.le_of_ble_eq_true rfl, Nat.le_of_ble_eq_true rfl⟩) hK hP hD hS hA (hH.kept hS.2.1) hE [0, 1, 2, 3, 4, 5, 6, 7, 8, 9, 10, 11, 12, 13, 14] [15, 16, 17, 18, 19, 20, 21, 22, 23, 24] [10, 11, 12, 13, 14, 15, 16, 17, 18, 19, 20, 21, 22, 23, 24, 0, 1, 2, 3, 4, 5, 6, 7, 8, 9] rfl rfl rfl rfl (by decide) rfl rfl rfl hl.1 rfl (Nat.le_of_ble_eq_true rfl) dL_isRacked_337 ⟨Nat.le_of_ble_eq_true rfl, Nat.le_of_ble_eq_true rfl⟩ (fun H locs hP hD hS hG => ?_)
                refine lv_bipush (v := (-61)) hx hb dL_isRacked_340 (by decide) ?_
                refine lv_icmp_ne (tgt := 379) hx hb dL_isRacked_342 (by decide) (fun c => absurd c (by decide)) (fun _ => ?_)
                refine lv_aload_n hx hb dL_isRacked_345 rfl (lv_at hl 4 rfl) ?_
                refine lv_iconst (v := (-1)) hx hb dL_isRacked_346 (by decide) ?_
                refine zl_cWi (As := [.ref (a 0), .int (-1)]) (rest := []) (wc := (wRo a cI cZ cD ki pl tu le ch ca (nI N) tk th hu od (nI M) ti be clk)) (wr := (wAr v cI cD lL lC lF lW lM lB lH lR lD lG)) ⟨hx, hb, hml, hown, hts⟩ (c_L_placeOf_bad l hl0 dC dI a cI cZ cD ki pl tu le ch ca N tk th hu od M ti be clk (by omega) (by omega) (-1) (zw_m1) H.size) (vx_cwSW 2 hts gL_isRacked_L_placeOf rfl rfl rfl (by decide +kernel) ⟨Nat.le_of_ble_eq_true rfl, Nat.le_of_ble_eq_true rfl⟩) hK hP hD hS hA (hH.kept hS.2.1) hE [0, 1, 2, 3, 4, 5, 6, 7, 8, 9, 10, 11, 12, 13, 14] [15, 16, 17, 18, 19, 20, 21, 22, 23, 24] [10, 11, 12, 13, 14, 15, 16, 17, 18, 19, 20, 21, 22, 23, 24, 0, 1, 2, 3, 4, 5, 6, 7, 8, 9] rfl rfl rfl rfl (by decide) rfl rfl rfl hl.1 rfl (Nat.le_of_ble_eq_true rfl) dL_isRacked_347 ⟨Nat.le_of_ble_eq_true rfl, Nat.le_of_ble_eq_true rfl⟩ (fun H locs hP hD hS hG => ?_)
                refine lv_bipush (v := (-61)) hx hb dL_isRacked_350 (by decide) ?_
                refine lv_icmp_ne (tgt := 379) hx hb dL_isRacked_352 (by decide) (fun c => absurd c (by decide)) (fun _ => ?_)
                refine lv_aload_n hx hb dL_isRacked_355 rfl (lv_at hl 4 rfl) ?_
                refine lv_iconst (v := 3) hx hb dL_isRacked_356 (by decide) ?_
                refine zl_cWi (As := [.ref (a 0), .int 3]) (rest := []) (wc := (wRo a cI cZ cD ki pl tu le ch ca (nI N) tk th hu od (nI M) ti be clk)) (wr := (wAr v cI cD lL lC lF lW lM lB lH lR lD lG)) ⟨hx, hb, hml, hown, hts⟩ (c_L_ready_bad l hl0 dC dI a cI cZ cD ki pl tu le ch ca N tk th hu od M ti be clk (by omega) (by omega) 3 (by decide +kernel) H.size) (vx_cwSW 2 hts gL_isRacked_L_ready rfl rfl rfl (by decide +kernel) ⟨Nat.le_of_ble_eq_true rfl, Nat.le_of_ble_eq_true rfl⟩) hK hP hD hS hA (hH.kept hS.2.1) hE [0, 1, 2, 3, 4, 5, 6, 7, 8, 9, 10, 11, 12, 13, 14] [15, 16, 17, 18, 19, 20, 21, 22, 23, 24] [10, 11, 12, 13, 14, 15, 16, 17, 18, 19, 20, 21, 22, 23, 24, 0, 1, 2, 3, 4, 5, 6, 7, 8, 9] rfl rfl rfl rfl (by decide) rfl rfl rfl hl.1 rfl (Nat.le_of_ble_eq_true rfl) dL_isRacked_357 ⟨Nat.le_of_ble_eq_true rfl, Nat.le_of_ble_eq_true rfl⟩ (fun H locs hP hD hS hG => ?_)
                refine lv_bipush (v := (-62)) hx hb dL_isRacked_360 (by decide) ?_
                refine lv_icmp_ne (tgt := 379) hx hb dL_isRacked_362 (by decide) (fun c => absurd c (by decide)) (fun _ => ?_)
                refine lv_aload_n hx hb dL_isRacked_365 rfl (lv_at hl 4 rfl) ?_
                refine lv_iconst (v := (-1)) hx hb dL_isRacked_366 (by decide) ?_
                refine zl_cWi (As := [.ref (a 0), .int (-1)]) (rest := []) (wc := (wRo a cI cZ cD ki pl tu le ch ca (nI N) tk th hu od (nI M) ti be clk)) (wr := (wAr v cI cD lL lC lF lW lM lB lH lR lD lG)) ⟨hx, hb, hml, hown, hts⟩ (c_L_ready_bad l hl0 dC dI a cI cZ cD ki pl tu le ch ca N tk th hu od M ti be clk (by omega) (by omega) (-1) (by decide +kernel) H.size) (vx_cwSW 2 hts gL_isRacked_L_ready rfl rfl rfl (by decide +kernel) ⟨Nat.le_of_ble_eq_true rfl, Nat.le_of_ble_eq_true rfl⟩) hK hP hD hS hA (hH.kept hS.2.1) hE [0, 1, 2, 3, 4, 5, 6, 7, 8, 9, 10, 11, 12, 13, 14] [15, 16, 17, 18, 19, 20, 21, 22, 23, 24] [10, 11, 12, 13, 14, 15, 16, 17, 18, 19, 20, 21, 22, 23, 24, 0, 1, 2, 3, 4, 5, 6, 7, 8, 9] rfl rfl rfl rfl (by decide) rfl rfl rfl hl.1 rfl (Nat.le_of_ble_eq_true rfl) dL_isRacked_367 ⟨Nat.le_of_ble_eq_true rfl, Nat.le_of_ble_eq_true rfl⟩ (fun H locs hP hD hS hG => ?_)
                refine lv_bipush (v := (-62)) hx hb dL_isRacked_370 (by decide) ?_
                refine lv_icmp_ne (tgt := 379) hx hb dL_isRacked_372 (by decide) (fun c => absurd c (by decide)) (fun _ => ?_)
                refine lv_iconst (v := 1) hx hb dL_isRacked_375 (by decide) ?_
                refine lv_goto (tgt := 380) hx hb dL_isRacked_376 (by decide) ?_
                exact W.zret (v := 1) hx hb hr (by rfl) (zg_qi rfl hP hK hD hS hG) hS.2.2 dL_isRacked_380
            · have d_5 := Nat.not_le.mp (fun h => c_5 ((nI_leI (a := M) (b := j2) (by omega) (by omega)).mpr h))
              refine lv_aload_n hx hb dL_isRacked_219 rfl (lv_at hl 4 rfl) ?_
              refine lv_iload hx hb dL_isRacked_220 (lv_at hl 1 rfl) ?_
              refine zq_cVi (As := [.int (nI j2)]) (rest := []) (wc := (wRo a cI cZ cD ki pl tu le ch ca (nI N) tk th hu od (nI M) ti be clk)) (w1 := (wRo a cI cZ cD ki pl tu le ch ca (nI N) tk th hu od (nI M) ti be clk)) (wr := (wAr v cI cD lL lC lF lW lM lB lH lR lD lG)) (ws' := (wLw a v cI cZ cD ki pl tu le ch ca (nI N) tk th hu od (nI M) ti be clk lL lC lF lW lM lB lH lR lD lG)) ⟨hx, hb, hml, hown, hts⟩ (c_X3_lightLeft_off l dC dI a cI cZ cD ki pl tu le ch ca N tk th hu od M ti be clk (by omega) (by omega) j2 (by omega) (hth j2 (by omega)) H.size) (cwV 1 hts gL_isRacked_X3_lightLeft rfl rfl rfl (by decide +kernel) ⟨Nat.le_of_ble_eq_true rfl, Nat.le_of_ble_eq_true rfl⟩) hK hP hD hS hA [0, 1, 2, 3, 4, 5, 6, 7, 8, 9, 10, 11, 12, 13, 14] [15, 16, 17, 18, 19, 20, 21, 22, 23, 24] [10, 11, 12, 13, 14, 15, 16, 17, 18, 19, 20, 21, 22, 23, 24, 0, 1, 2, 3, 4, 5, 6, 7, 8, 9] rfl rfl rfl rfl (by decide) rfl rfl (ci := 3) rfl 0 rfl rfl hl.1 rfl (Nat.le_of_ble_eq_true rfl) dL_isRacked_222 ⟨Nat.le_of_ble_eq_true rfl, Nat.le_of_ble_eq_true rfl⟩ (fun H locs hP hD hS => ?_)
              refine lv_aload hx hb dL_isRacked_225 (lv_at hl 9 rfl) ?_
              refine lv_iload hx hb dL_isRacked_227 (lv_at hl 1 rfl) ?_
              refine zq_iald hx hb hK hP 19 0 rfl rfl (j := j2) (by omega) (by decide) dL_isRacked_229 ?_
              rw [hm0 j2 (by omega)]
              refine lv_if_ne (tgt := 237) hx hb dL_isRacked_230 (by decide) (fun c => absurd c (by decide)) (fun _ => ?_)
              refine lv_iconst (v := (-1)) hx hb dL_isRacked_233 (by decide) ?_
              refine lv_goto (tgt := 247) hx hb dL_isRacked_234 (by decide) ?_
              refine lv_icmp_eq (tgt := 252) hx hb dL_isRacked_247 (by decide) (fun _ => ?_) (fun c => absurd c (by decide))
              refine lv_iload hx hb dL_isRacked_252 (lv_at hl 0 rfl) ?_
              refine lv_aload hx hb dL_isRacked_254 (lv_at hl 9 rfl) ?_
              refine lv_iload hx hb dL_isRacked_256 (lv_at hl 1 rfl) ?_
              refine zq_iald hx hb hK hP 19 0 rfl rfl (j := j2) (by omega) (by decide) dL_isRacked_258 ?_
              rw [hm0 j2 (by omega)]
              refine lv_if_le (tgt := 285) hx hb dL_isRacked_259 (by decide) (fun _ => ?_) (fun c => absurd c (by decide))
              refine lv_iconst (v := 0) hx hb dL_isRacked_285 (by decide) ?_
              refine t_iadd hx hb dL_isRacked_286 (v := 0) (zq_add0 _) ?_
              refine lv_istore (lv' := [(11, .int 0), (12, .int (nI j2)), (7, .double (zh N)), (9, .double (zh N)), (0, .ref (a 0)), (1, .ref (v 1)), (2, .ref (v 2)), (3, .ref (v 3)), (4, .ref (v 4)), (5, .ref (v 5)), (6, .ref (v 10))]) hx hb dL_isRacked_287 hl (by decide) rfl (fun ls hl => ?_)
              refine lv_iinc (v := nI (j2 + 1)) (lv' := [(12, .int (nI (j2 + 1))), (11, .int 0), (7, .double (zh N)), (9, .double (zh N)), (0, .ref (a 0)), (1, .ref (v 1)), (2, .ref (v 2)), (3, .ref (v 3)), (4, .ref (v 4)), (5, .ref (v 5)), (6, .ref (v 10))]) hx hb dL_isRacked_289 hl (k := 1) rfl (nI_add _ 1) (by decide) rfl (fun ls hl => ?_)
              refine lv_goto (tgt := 210) hx hb dL_isRacked_292 (by decide) ?_
              exact ih_j2 _ _ _ (by omega) ⟨hP, hD, hS, lv_sub hl [1, 0, 2, 3, 4, 5, 6, 7, 8, 9, 10] rfl⟩
          · have d_4 := (fun h => c_4 ((nI_eq (a := N) (b := k2) (by omega) (by omega)).mpr h) : ¬ N = k2)
            exact absurd (by omega) d_4
        · have d_3 := Nat.not_le.mp (fun h => c_3 ((nI_leI (a := N) (b := k2) (by omega) (by omega)).mpr h))
          refine lv_iload hx hb dL_isRacked_146 (lv_at hl 0 rfl) ?_
          refine lv_aload_n hx hb dL_isRacked_148 rfl (lv_at hl 6 rfl) ?_
          refine lv_iload hx hb dL_isRacked_149 (lv_at hl 1 rfl) ?_
          refine zq_iald hx hb hK hP 15 0 rfl rfl (j := k2) (by omega) (by decide) dL_isRacked_151 ?_
          rw [hlL k2 (by omega)]
          refine lv_bipush (v := 15) hx hb dL_isRacked_152 (by decide) ?_
          refine lv_iand hx hb dL_isRacked_154 ?_
          rw [show (2 : Int32) &&& (15 : Int32) = (2 : Int32) by decide +kernel]
          refine lv_iload hx hb dL_isRacked_155 (lv_at hl 2 rfl) ?_
          refine lv_icmp_ne (tgt := 175) hx hb dL_isRacked_157 (by decide) (fun c => absurd c (by decide)) (fun _ => ?_)
          refine lv_aload_n hx hb dL_isRacked_160 rfl (lv_at hl 7 rfl) ?_
          refine lv_iload hx hb dL_isRacked_161 (lv_at hl 1 rfl) ?_
          refine zq_dald hx hb hK hP 16 2 rfl rfl (j := k2) (by omega) (by decide) dL_isRacked_163 ?_
          rw [hlC k2 (by omega)]
          refine lv_ldc2d hx hb hown hc_60 dL_isRacked_164 ?_
          refine lv_dcmp hx hb dL_isRacked_167 ?_
          rw [hd9]
          refine lv_if_lt (tgt := 175) hx hb dL_isRacked_168 (by decide) (fun c => absurd c (by decide)) (fun _ => ?_)
          refine lv_iconst (v := 1) hx hb dL_isRacked_171 (by decide) ?_
          refine lv_goto (tgt := 176) hx hb dL_isRacked_172 (by decide) ?_
          refine t_iadd hx hb dL_isRacked_176 (v := nI (k2 + 1)) (nI_1 _) ?_
          refine lv_istore (lv' := [(12, .int (nI (k2 + 1))), (13, .int (nI k2)), (11, .int 2), (7, .double (zh N)), (9, .double (zh N)), (0, .ref (a 0)), (1, .ref (v 1)), (2, .ref (v 2)), (3, .ref (v 3)), (4, .ref (v 4)), (5, .ref (v 5)), (6, .ref (v 10))]) hx hb dL_isRacked_177 hl (by decide) rfl (fun ls hl => ?_)
          refine lv_iinc (v := nI (k2 + 1)) (lv' := [(13, .int (nI (k2 + 1))), (12, .int (nI (k2 + 1))), (11, .int 2), (7, .double (zh N)), (9, .double (zh N)), (0, .ref (a 0)), (1, .ref (v 1)), (2, .ref (v 2)), (3, .ref (v 3)), (4, .ref (v 4)), (5, .ref (v 5)), (6, .ref (v 10))]) hx hb dL_isRacked_179 hl (k := 1) rfl (nI_add _ 1) (by decide) rfl (fun ls hl => ?_)
          refine lv_goto (tgt := 137) hx hb dL_isRacked_182 (by decide) ?_
          exact ih_k2 _ _ _ (by omega) ⟨hP, hD, hS, lv_sub hl [1, 0, 2, 3, 4, 5, 6, 7, 8, 9, 10, 11] rfl⟩
      · have d_2 := Nat.not_le.mp (fun h => c_2 ((nI_leI (a := N) (b := k1) (by omega) (by omega)).mpr h))
        refine lv_iload hx hb dL_isRacked_146 (lv_at hl 0 rfl) ?_
        refine lv_aload_n hx hb dL_isRacked_148 rfl (lv_at hl 6 rfl) ?_
        refine lv_iload hx hb dL_isRacked_149 (lv_at hl 1 rfl) ?_
        refine zq_iald hx hb hK hP 15 0 rfl rfl (j := k1) (by omega) (by decide) dL_isRacked_151 ?_
        rw [hlL k1 (by omega)]
        refine lv_bipush (v := 15) hx hb dL_isRacked_152 (by decide) ?_
        refine lv_iand hx hb dL_isRacked_154 ?_
        rw [show (2 : Int32) &&& (15 : Int32) = (2 : Int32) by decide +kernel]
        refine lv_iload hx hb dL_isRacked_155 (lv_at hl 2 rfl) ?_
        refine lv_icmp_ne (tgt := 175) hx hb dL_isRacked_157 (by decide) (fun _ => ?_) (fun c => absurd c (by decide))
        refine lv_iconst (v := 0) hx hb dL_isRacked_175 (by decide) ?_
        refine t_iadd hx hb dL_isRacked_176 (v := 0) (zq_add0 _) ?_
        refine lv_istore (lv' := [(12, .int 0), (13, .int (nI k1)), (11, .int 1), (7, .double (zh N)), (9, .double (zh N)), (0, .ref (a 0)), (1, .ref (v 1)), (2, .ref (v 2)), (3, .ref (v 3)), (4, .ref (v 4)), (5, .ref (v 5)), (6, .ref (v 10))]) hx hb dL_isRacked_177 hl (by decide) rfl (fun ls hl => ?_)
        refine lv_iinc (v := nI (k1 + 1)) (lv' := [(13, .int (nI (k1 + 1))), (12, .int 0), (11, .int 1), (7, .double (zh N)), (9, .double (zh N)), (0, .ref (a 0)), (1, .ref (v 1)), (2, .ref (v 2)), (3, .ref (v 3)), (4, .ref (v 4)), (5, .ref (v 5)), (6, .ref (v 10))]) hx hb dL_isRacked_179 hl (k := 1) rfl (nI_add _ 1) (by decide) rfl (fun ls hl => ?_)
        refine lv_goto (tgt := 137) hx hb dL_isRacked_182 (by decide) ?_
        exact ih_k1 _ _ _ (by omega) ⟨hP, hD, hS, lv_sub hl [1, 0, 2, 3, 4, 5, 6, 7, 8, 9, 10, 11] rfl⟩
    · have d_1 := Nat.not_le.mp (fun h => c_1 ((nI_leI (a := N) (b := k0) (by omega) (by omega)).mpr h))
      refine lv_iload hx hb dL_isRacked_146 (lv_at hl 0 rfl) ?_
      refine lv_aload_n hx hb dL_isRacked_148 rfl (lv_at hl 6 rfl) ?_
      refine lv_iload hx hb dL_isRacked_149 (lv_at hl 1 rfl) ?_
      refine zq_iald hx hb hK hP 15 0 rfl rfl (j := k0) (by omega) (by decide) dL_isRacked_151 ?_
      rw [hlL k0 (by omega)]
      refine lv_bipush (v := 15) hx hb dL_isRacked_152 (by decide) ?_
      refine lv_iand hx hb dL_isRacked_154 ?_
      rw [show (2 : Int32) &&& (15 : Int32) = (2 : Int32) by decide +kernel]
      refine lv_iload hx hb dL_isRacked_155 (lv_at hl 2 rfl) ?_
      refine lv_icmp_ne (tgt := 175) hx hb dL_isRacked_157 (by decide) (fun _ => ?_) (fun c => absurd c (by decide))
      refine lv_iconst (v := 0) hx hb dL_isRacked_175 (by decide) ?_
      refine t_iadd hx hb dL_isRacked_176 (v := 0) (zq_add0 _) ?_
      refine lv_istore (lv' := [(12, .int 0), (13, .int (nI k0)), (11, .int 0), (7, .double (zh N)), (9, .double (zh N)), (0, .ref (a 0)), (1, .ref (v 1)), (2, .ref (v 2)), (3, .ref (v 3)), (4, .ref (v 4)), (5, .ref (v 5)), (6, .ref (v 10))]) hx hb dL_isRacked_177 hl (by decide) rfl (fun ls hl => ?_)
      refine lv_iinc (v := nI (k0 + 1)) (lv' := [(13, .int (nI (k0 + 1))), (12, .int 0), (11, .int 0), (7, .double (zh N)), (9, .double (zh N)), (0, .ref (a 0)), (1, .ref (v 1)), (2, .ref (v 2)), (3, .ref (v 3)), (4, .ref (v 4)), (5, .ref (v 5)), (6, .ref (v 10))]) hx hb dL_isRacked_179 hl (k := 1) rfl (nI_add _ 1) (by decide) rfl (fun ls hl => ?_)
      refine lv_goto (tgt := 137) hx hb dL_isRacked_182 (by decide) ?_
      exact ih_k0 _ _ _ (by omega) ⟨hP, hD, hS, lv_sub hl [1, 0, 2, 3, 4, 5, 6, 7, 8, 9, 10, 11] rfl⟩
  · have d_0 := Nat.not_le.mp (fun h => c_0 ((nI_leI (a := N) (b := i) (by omega) (by omega)).mpr h))
    refine lv_aload_n hx hb dL_isRacked_18 rfl (lv_at hl 3 rfl) ?_
    refine lv_iload hx hb dL_isRacked_19 (lv_at hl 0 rfl) ?_
    refine zq_cVi (As := [.int (nI i)]) (rest := []) (wc := (wRo a cI cZ cD ki pl tu le ch ca (nI N) tk th hu od (nI M) ti be clk)) (w1 := (wRo a cI cZ cD ki pl tu le ch ca (nI N) tk th hu od (nI M) ti be clk)) (wr := (wAr v cI cD lL lC lF lW lM lB lH lR lD lG)) (ws' := (wLw a v cI cZ cD ki pl tu le ch ca (nI N) tk th hu od (nI M) ti be clk lL lC lF lW lM lB lH lR lD lG)) ⟨hx, hb, hml, hown, hts⟩ (c_X3_placeOf_ok l dC dI a cI cZ cD ki pl tu le ch ca N tk th hu od M ti be clk (by omega) (by omega) i (by omega) H.size) (cwV 1 hts gL_isRacked_X3_placeOf rfl rfl rfl (by decide +kernel) ⟨Nat.le_of_ble_eq_true rfl, Nat.le_of_ble_eq_true rfl⟩) hK hP hD hS hA [0, 1, 2, 3, 4, 5, 6, 7, 8, 9, 10, 11, 12, 13, 14] [15, 16, 17, 18, 19, 20, 21, 22, 23, 24] [10, 11, 12, 13, 14, 15, 16, 17, 18, 19, 20, 21, 22, 23, 24, 0, 1, 2, 3, 4, 5, 6, 7, 8, 9] rfl rfl rfl rfl (by decide) rfl rfl (ci := 3) rfl 0 rfl rfl hl.1 rfl (Nat.le_of_ble_eq_true rfl) dL_isRacked_21 ⟨Nat.le_of_ble_eq_true rfl, Nat.le_of_ble_eq_true rfl⟩ (fun H locs hP hD hS => ?_)
    rw [hpl i (by omega)]
    refine lv_aload_n hx hb dL_isRacked_24 rfl (lv_at hl 4 rfl) ?_
    refine lv_iload hx hb dL_isRacked_25 (lv_at hl 0 rfl) ?_
    refine zq_iald hx hb hK hP 15 0 rfl rfl (j := i) (by omega) (by decide) dL_isRacked_27 ?_
    rw [hlL i (by omega)]
    refine lv_iconst (v := 2) hx hb dL_isRacked_28 (by decide) ?_
    refine lv_ishr hx hb dL_isRacked_29 ?_
    rw [show (2 : Int32) >>> ((2 : Int32) &&& (31 : Int32)) = (0 : Int32) by decide +kernel]
    refine lv_iconst (v := 3) hx hb dL_isRacked_30 (by decide) ?_
    refine lv_iand hx hb dL_isRacked_31 ?_
    rw [show (0 : Int32) &&& (3 : Int32) = (0 : Int32) by decide +kernel]
    refine lv_icmp_ne (tgt := 82) hx hb dL_isRacked_32 (by decide) (fun c => absurd c (by decide)) (fun _ => ?_)
    refine lv_aload_n hx hb dL_isRacked_35 rfl (lv_at hl 3 rfl) ?_
    refine lv_iload hx hb dL_isRacked_36 (lv_at hl 0 rfl) ?_
    refine zq_cVi (As := [.int (nI i)]) (rest := []) (wc := (wRo a cI cZ cD ki pl tu le ch ca (nI N) tk th hu od (nI M) ti be clk)) (w1 := (wRo a cI cZ cD ki pl tu le ch ca (nI N) tk th hu od (nI M) ti be clk)) (wr := (wAr v cI cD lL lC lF lW lM lB lH lR lD lG)) (ws' := (wLw a v cI cZ cD ki pl tu le ch ca (nI N) tk th hu od (nI M) ti be clk lL lC lF lW lM lB lH lR lD lG)) ⟨hx, hb, hml, hown, hts⟩ (c_X3_turnsOf_ok l dC dI a cI cZ cD ki pl tu le ch ca N tk th hu od M ti be clk (by omega) (by omega) i (by omega) H.size) (cwV 1 hts gL_isRacked_X3_turnsOf rfl rfl rfl (by decide +kernel) ⟨Nat.le_of_ble_eq_true rfl, Nat.le_of_ble_eq_true rfl⟩) hK hP hD hS hA [0, 1, 2, 3, 4, 5, 6, 7, 8, 9, 10, 11, 12, 13, 14] [15, 16, 17, 18, 19, 20, 21, 22, 23, 24] [10, 11, 12, 13, 14, 15, 16, 17, 18, 19, 20, 21, 22, 23, 24, 0, 1, 2, 3, 4, 5, 6, 7, 8, 9] rfl rfl rfl rfl (by decide) rfl rfl (ci := 3) rfl 0 rfl rfl hl.1 rfl (Nat.le_of_ble_eq_true rfl) dL_isRacked_38 ⟨Nat.le_of_ble_eq_true rfl, Nat.le_of_ble_eq_true rfl⟩ (fun H locs hP hD hS => ?_)
    rw [htu i (by omega)]
    refine lv_aload_n hx hb dL_isRacked_41 rfl (lv_at hl 4 rfl) ?_
    refine lv_iload hx hb dL_isRacked_42 (lv_at hl 0 rfl) ?_
    refine zq_iald hx hb hK hP 15 0 rfl rfl (j := i) (by omega) (by decide) dL_isRacked_44 ?_
    rw [hlL i (by omega)]
    refine lv_iconst (v := 4) hx hb dL_isRacked_45 (by decide) ?_
    refine lv_ishr hx hb dL_isRacked_46 ?_
    rw [show (2 : Int32) >>> ((4 : Int32) &&& (31 : Int32)) = (0 : Int32) by decide +kernel]
    refine lv_sipush (v := 255) hx hb dL_isRacked_47 (by decide) ?_
    refine lv_iand hx hb dL_isRacked_50 ?_
    rw [show (0 : Int32) &&& (255 : Int32) = (0 : Int32) by decide +kernel]
    refine lv_icmp_ne (tgt := 82) hx hb dL_isRacked_51 (by decide) (fun c => absurd c (by decide)) (fun _ => ?_)
    refine lv_aload_n hx hb dL_isRacked_54 rfl (lv_at hl 3 rfl) ?_
    refine lv_iload hx hb dL_isRacked_55 (lv_at hl 0 rfl) ?_
    refine zq_cVd (As := [.int (nI i)]) (rest := []) (wc := (wRo a cI cZ cD ki pl tu le ch ca (nI N) tk th hu od (nI M) ti be clk)) (w1 := (wRo a cI cZ cD ki pl tu le ch ca (nI N) tk th hu od (nI M) ti be clk)) (wr := (wAr v cI cD lL lC lF lW lM lB lH lR lD lG)) (ws' := (wLw a v cI cZ cD ki pl tu le ch ca (nI N) tk th hu od (nI M) ti be clk lL lC lF lW lM lB lH lR lD lG)) ⟨hx, hb, hml, hown, hts⟩ (c_X3_chargeOf_ok l dC dI a cI cZ cD ki pl tu le ch ca N tk th hu od M ti be clk (by omega) (by omega) i (by omega) H.size) (cwV 1 hts gL_isRacked_X3_chargeOf rfl rfl rfl (by decide +kernel) ⟨Nat.le_of_ble_eq_true rfl, Nat.le_of_ble_eq_true rfl⟩) hK hP hD hS hA [0, 1, 2, 3, 4, 5, 6, 7, 8, 9, 10, 11, 12, 13, 14] [15, 16, 17, 18, 19, 20, 21, 22, 23, 24] [10, 11, 12, 13, 14, 15, 16, 17, 18, 19, 20, 21, 22, 23, 24, 0, 1, 2, 3, 4, 5, 6, 7, 8, 9] rfl rfl rfl rfl (by decide) rfl rfl (ci := 3) rfl 0 rfl rfl hl.1 rfl (Nat.le_of_ble_eq_true rfl) dL_isRacked_57 ⟨Nat.le_of_ble_eq_true rfl, Nat.le_of_ble_eq_true rfl⟩ (fun H locs hP hD hS => ?_)
    rw [hch i (by omega)]
    refine lv_aload_n hx hb dL_isRacked_60 rfl (lv_at hl 5 rfl) ?_
    refine lv_iload hx hb dL_isRacked_61 (lv_at hl 0 rfl) ?_
    refine zq_dald hx hb hK hP 16 2 rfl rfl (j := i) (by omega) (by decide) dL_isRacked_63 ?_
    rw [hlC i (by omega)]
    refine lv_dcmp hx hb dL_isRacked_64 ?_
    rw [hdc]
    refine lv_if_ne (tgt := 82) hx hb dL_isRacked_65 (by decide) (fun c => absurd c (by decide)) (fun _ => ?_)
    refine lv_aload_n hx hb dL_isRacked_68 rfl (lv_at hl 3 rfl) ?_
    refine lv_iload hx hb dL_isRacked_69 (lv_at hl 0 rfl) ?_
    refine zq_cVd (As := [.int (nI i)]) (rest := []) (wc := (wRo a cI cZ cD ki pl tu le ch ca (nI N) tk th hu od (nI M) ti be clk)) (w1 := (wRo a cI cZ cD ki pl tu le ch ca (nI N) tk th hu od (nI M) ti be clk)) (wr := (wAr v cI cD lL lC lF lW lM lB lH lR lD lG)) (ws' := (wLw a v cI cZ cD ki pl tu le ch ca (nI N) tk th hu od (nI M) ti be clk lL lC lF lW lM lB lH lR lD lG)) ⟨hx, hb, hml, hown, hts⟩ (c_X3_capacityOf_ok l dC dI a cI cZ cD ki pl tu le ch ca N tk th hu od M ti be clk (by omega) (by omega) i (by omega) H.size) (cwV 1 hts gL_isRacked_X3_capacityOf rfl rfl rfl (by decide +kernel) ⟨Nat.le_of_ble_eq_true rfl, Nat.le_of_ble_eq_true rfl⟩) hK hP hD hS hA [0, 1, 2, 3, 4, 5, 6, 7, 8, 9, 10, 11, 12, 13, 14] [15, 16, 17, 18, 19, 20, 21, 22, 23, 24] [10, 11, 12, 13, 14, 15, 16, 17, 18, 19, 20, 21, 22, 23, 24, 0, 1, 2, 3, 4, 5, 6, 7, 8, 9] rfl rfl rfl rfl (by decide) rfl rfl (ci := 3) rfl 0 rfl rfl hl.1 rfl (Nat.le_of_ble_eq_true rfl) dL_isRacked_71 ⟨Nat.le_of_ble_eq_true rfl, Nat.le_of_ble_eq_true rfl⟩ (fun H locs hP hD hS => ?_)
    rw [hca i (by omega)]
    refine lv_aload_n hx hb dL_isRacked_74 rfl (lv_at hl 6 rfl) ?_
    refine lv_iload hx hb dL_isRacked_75 (lv_at hl 0 rfl) ?_
    refine zq_dald hx hb hK hP 17 2 rfl rfl (j := i) (by omega) (by decide) dL_isRacked_77 ?_
    rw [hlF i (by omega)]
    refine lv_dcmp hx hb dL_isRacked_78 ?_
    rw [hdc]
    refine lv_if_eq (tgt := 84) hx hb dL_isRacked_79 (by decide) (fun _ => ?_) (fun c => absurd c (by decide))
    refine lv_aload_n hx hb dL_isRacked_84 rfl (lv_at hl 4 rfl) ?_
    refine lv_iload hx hb dL_isRacked_85 (lv_at hl 0 rfl) ?_
    refine zq_iald hx hb hK hP 15 0 rfl rfl (j := i) (by omega) (by decide) dL_isRacked_87 ?_
    rw [hlL i (by omega)]
    refine lv_iconst (v := 2) hx hb dL_isRacked_88 (by decide) ?_
    refine lv_ishr hx hb dL_isRacked_89 ?_
    rw [show (2 : Int32) >>> ((2 : Int32) &&& (31 : Int32)) = (0 : Int32) by decide +kernel]
    refine lv_iconst (v := 3) hx hb dL_isRacked_90 (by decide) ?_
    refine lv_iand hx hb dL_isRacked_91 ?_
    rw [show (0 : Int32) &&& (3 : Int32) = (0 : Int32) by decide +kernel]
    refine lv_if_le (tgt := 98) hx hb dL_isRacked_92 (by decide) (fun _ => ?_) (fun c => absurd c (by decide))
    refine lv_dload hx hb dL_isRacked_98 (lv_at hl 1 rfl) ?_
    refine lv_aload_n hx hb dL_isRacked_100 rfl (lv_at hl 5 rfl) ?_
    refine lv_iload hx hb dL_isRacked_101 (lv_at hl 0 rfl) ?_
    refine zq_dald hx hb hK hP 16 2 rfl rfl (j := i) (by omega) (by decide) dL_isRacked_103 ?_
    rw [hlC i (by omega)]
    refine lv_dadd hx hb dL_isRacked_104 (zn_sum_n (pl := fun _ => 0) (f := fun _ => 4626322717216342016) (n := 40) (fun _ _ => zw_B20) (by omega) (show i < 40 by omega)) ?_
    refine lv_dstore (lv' := [(7, .double (FP.dadd (zh i) 4626322717216342016)), (11, .int (nI i)), (9, .double (zh i)), (0, .ref (a 0)), (1, .ref (v 1)), (2, .ref (v 2)), (3, .ref (v 3)), (4, .ref (v 4)), (5, .ref (v 5)), (6, .ref (v 10))]) hx hb dL_isRacked_105 hl (by decide) rfl (fun ls hl => ?_)
    refine lv_dload hx hb dL_isRacked_107 (lv_at hl 2 rfl) ?_
    refine lv_aload_n hx hb dL_isRacked_109 rfl (lv_at hl 6 rfl) ?_
    refine lv_iload hx hb dL_isRacked_110 (lv_at hl 1 rfl) ?_
    refine zq_dald hx hb hK hP 17 2 rfl rfl (j := i) (by omega) (by decide) dL_isRacked_112 ?_
    rw [hlF i (by omega)]
    refine lv_dadd hx hb dL_isRacked_113 (zn_sum_n (pl := fun _ => 0) (f := fun _ => 4626322717216342016) (n := 40) (fun _ _ => zw_B20) (by omega) (show i < 40 by omega)) ?_
    refine lv_dstore (lv' := [(9, .double (FP.dadd (zh i) 4626322717216342016)), (7, .double (FP.dadd (zh i) 4626322717216342016)), (11, .int (nI i)), (0, .ref (a 0)), (1, .ref (v 1)), (2, .ref (v 2)), (3, .ref (v 3)), (4, .ref (v 4)), (5, .ref (v 5)), (6, .ref (v 10))]) hx hb dL_isRacked_114 hl (by decide) rfl (fun ls hl => ?_)
    refine lv_iinc (v := nI (i + 1)) (lv' := [(11, .int (nI (i + 1))), (9, .double (FP.dadd (zh i) 4626322717216342016)), (7, .double (FP.dadd (zh i) 4626322717216342016)), (0, .ref (a 0)), (1, .ref (v 1)), (2, .ref (v 2)), (3, .ref (v 3)), (4, .ref (v 4)), (5, .ref (v 5)), (6, .ref (v 10))]) hx hb dL_isRacked_116 hl (k := 2) rfl (nI_add _ 1) (by decide) rfl (fun ls hl => ?_)
    refine lv_goto (tgt := 9) hx hb dL_isRacked_119 (by decide) ?_
    have e_8 : (zh (i + 1)) = (FP.dadd (zh i) 4626322717216342016) := by rw [zh_s]
    have e_9 : (zh (i + 1)) = (FP.dadd (zh i) 4626322717216342016) := by rw [zh_s]
    exact ih_i _ _ _ (by omega) ⟨(by (try rw [e_8]); (try rw [e_9]); exact hP), (by (try rw [e_8]); (try rw [e_9]); exact hD), hS, (by (try rw [e_8]); (try rw [e_9]); exact lv_sub hl [0, 2, 1, 3, 4, 5, 6, 7, 8, 9] rfl)⟩

