set_option maxHeartbeats 8000000 in
set_option maxRecDepth 100000 in
theorem c_L_keeps_lamp (l : Launch) (hl0 : l.stackTraces = false) (dC : Nat → ClassId) (dI : Nat → Nat → Nat) (a : Nat → Nat) (cI cZ cD : ClassId) (ki pl tu le : Nat → Int32) (ch ca : Nat → UInt64) (N : Nat) (tk th hu od : Nat → Int32) (M : Nat) (ti : Int32) (be : Nat → Int32) (clk : Int32) (hN : N ≤ 40) (hM : M ≤ 30) (v : Nat → Nat) (lL : Nat → Int32) (lC lF : Nat → UInt64) (lW lM lB lH lR lD lG : Nat → Int32) (hg0 : lG 0 = nI N) (hg1 : lG 1 = nI M) (hN5 : N < 40) (sz : Nat) : zg_M l yL_keeps wsL_keeps ({ frames := 9, cells := 1, slots := 6, locals := 154 } : Room) (dC, dI) (zq_T cI cZ cD) [.ref (a 0), .int 0, .int 10, .ref (v 1), .ref (v 2), .ref (v 3), .ref (v 4), .ref (v 5), .ref (v 6), .ref (v 7), .ref (v 8), .ref (v 9), .ref (v 10)] (wLw a v cI cZ cD ki pl tu le ch ca (nI N) tk th hu od (nI M) ti be clk lL lC lF lW lM lB lH lR lD lG) 1 (wLw a v cI cZ cD (upd ki N 2) (upd pl N 0) tu le (vf_upd ch N (la_new 2)) (vf_upd ca N (la_new 2)) (nI (N + 1)) tk th hu od (nI M) ti be clk (upd lL N 2) (vf_upd lC N 4626322717216342016) (vf_upd lF N 4626322717216342016) lW lM lB lH lR lD (upd lG 0 (nI (N + 1)))) sz 1 6 := by
  refine Met.ofW (cc := cL_keeps) (maxL := 23) (ret := (some .boolean)) (by decide) rfl ?_
  intro p e s m args below meth c s₁ B hml hv
  obtain ⟨rfl, ⟨hsz, hP, hK, hD0⟩, hH, hE⟩ := hv
  have hx := B.exec
  have hb := B.bytes
  have hr := B.returns
  have hts := atoms_spec (ws := wsL_keeps) B.pre
  have hown : s.vm.findClass RL = some m.cls := findClass_of_methodNamed B.named
  have hlocks := B.notSynchronized
  subst hsz
  have hD := hD0.self (sz := s.heap.size)
  generalize hAe : va_A (wLw a v cI cZ cD ki pl tu le ch ca (nI N) tk th hu od (nI M) ti be clk lL lC lF lW lM lB lH lR lD lG) s.heap.size = A at hD hH ⊢
  have hA : ∀ q : Nat, s.heap.size ≤ q → A q := fun q h => by rw [← hAe]; exact Or.inr h
  have hS : va_S A s.heap s.heap [] := va_S.rf
  have hP : va_P (dC, dI) vwCl (wLw a v cI cZ cD ki pl tu le ch ca (nI N) tk th hu od (nI M) ti be clk lL lC lF lW lM lB lH lR lD lG) s.heap := hP
  have hl := lv_entry ([.ref (a 0), .int 0, .int 10, .ref (v 1), .ref (v 2), .ref (v 3), .ref (v 4), .ref (v 5), .ref (v 6), .ref (v 7), .ref (v 8), .ref (v 9), .ref (v 10)]) (n := 23) (Nat.le_of_ble_eq_true rfl)
  rw [lg_entry_eq]
  generalize (lg_sl ([.ref (a 0), .int 0, .int 10, .ref (v 1), .ref (v 2), .ref (v 3), .ref (v 4), .ref (v 5), .ref (v 6), .ref (v 7), .ref (v 8), .ref (v 9), .ref (v 10)]) ++ List.replicate (23 - (lg_sl ([.ref (a 0), .int 0, .int 10, .ref (v 1), .ref (v 2), .ref (v 3), .ref (v 4), .ref (v 5), .ref (v 6), .ref (v 7), .ref (v 8), .ref (v 9), .ref (v 10)])).length) Slot.unset).toArray = ls at hl ⊢
  have hl : lv_has ls 23 [(0, .ref (a 0)), (1, .int 0), (2, .int 10), (3, .ref (v 1)), (4, .ref (v 2)), (5, .ref (v 3)), (6, .ref (v 4)), (7, .ref (v 5)), (8, .ref (v 6)), (9, .ref (v 7)), (10, .ref (v 8)), (11, .ref (v 9)), (12, .ref (v 10))] := hl
  refine lv_iload_n hx hb dL_keeps_0 rfl (lv_at hl 2 rfl) ?_
  refine lv_aload hx hb dL_keeps_1 (lv_at hl 12 rfl) ?_
  refine lv_iconst (v := 0) hx hb dL_keeps_3 (by decide) ?_
  refine zq_iald hx hb hK hP 24 0 rfl rfl (j := 0) (by decide) (by decide) dL_keeps_4 ?_
  rw [hg0]
  refine lv_iconst (v := 1) hx hb dL_keeps_5 (by decide) ?_
  refine t_iadd hx hb dL_keeps_6 (v := nI (N + 1)) (nI_1 _) ?_
  refine zq_cSi (As := [.int 10, .int (nI (N + 1))]) (rest := []) ⟨hx, hb, hml, hown, hts⟩ (c_L_low l 10 (nI (N + 1)) (nI_ne0 (by omega) (by omega))) (va_cwS 2 hts gL_keeps_L_low rfl rfl rfl (by decide +kernel) ⟨Nat.le_of_ble_eq_true rfl, Nat.le_of_ble_eq_true rfl⟩) hP hS rfl hl.1 rfl (Nat.le_of_ble_eq_true rfl) dL_keeps_7 ⟨Nat.le_of_ble_eq_true rfl, Nat.le_of_ble_eq_true rfl⟩ (fun H locs hP hS => ?_)
  refine lv_istore (lv' := [(13, .int (zlow 10 (nI (N + 1)))), (0, .ref (a 0)), (1, .int 0), (2, .int 10), (3, .ref (v 1)), (4, .ref (v 2)), (5, .ref (v 3)), (6, .ref (v 4)), (7, .ref (v 5)), (8, .ref (v 6)), (9, .ref (v 7)), (10, .ref (v 8)), (11, .ref (v 9)), (12, .ref (v 10))]) hx hb dL_keeps_10 hl (by decide) rfl (fun ls hl => ?_)
  refine lv_iload_n hx hb dL_keeps_12 rfl (lv_at hl 3 rfl) ?_
  refine lv_aload hx hb dL_keeps_13 (lv_at hl 13 rfl) ?_
  refine lv_iconst (v := 1) hx hb dL_keeps_15 (by decide) ?_
  refine zq_iald hx hb hK hP 24 0 rfl rfl (j := 1) (by decide) (by decide) dL_keeps_16 ?_
  rw [hg1]
  refine lv_iconst (v := 1) hx hb dL_keeps_17 (by decide) ?_
  refine t_iadd hx hb dL_keeps_18 (v := nI (M + 1)) (nI_1 _) ?_
  refine zq_cSi (As := [.int 10, .int (nI (M + 1))]) (rest := []) ⟨hx, hb, hml, hown, hts⟩ (c_L_low l 10 (nI (M + 1)) (nI_ne0 (by omega) (by omega))) (va_cwS 2 hts gL_keeps_L_low rfl rfl rfl (by decide +kernel) ⟨Nat.le_of_ble_eq_true rfl, Nat.le_of_ble_eq_true rfl⟩) hP hS rfl hl.1 rfl (Nat.le_of_ble_eq_true rfl) dL_keeps_19 ⟨Nat.le_of_ble_eq_true rfl, Nat.le_of_ble_eq_true rfl⟩ (fun H locs hP hS => ?_)
  refine lv_istore (lv' := [(14, .int (zlow 10 (nI (M + 1)))), (13, .int (zlow 10 (nI (N + 1)))), (0, .ref (a 0)), (1, .int 0), (2, .int 10), (3, .ref (v 1)), (4, .ref (v 2)), (5, .ref (v 3)), (6, .ref (v 4)), (7, .ref (v 5)), (8, .ref (v 6)), (9, .ref (v 7)), (10, .ref (v 8)), (11, .ref (v 9)), (12, .ref (v 10))]) hx hb dL_keeps_22 hl (by decide) rfl (fun ls hl => ?_)
  refine lv_iload_n hx hb dL_keeps_24 rfl (lv_at hl 3 rfl) ?_
  refine lv_bipush (v := 20) hx hb dL_keeps_25 (by decide) ?_
  refine zq_cSi (As := [.int 0, .int 20]) (rest := []) ⟨hx, hb, hml, hown, hts⟩ (c_L_low l 0 20 (by decide)) (va_cwS 2 hts gL_keeps_L_low rfl rfl rfl (by decide +kernel) ⟨Nat.le_of_ble_eq_true rfl, Nat.le_of_ble_eq_true rfl⟩) hP hS rfl hl.1 rfl (Nat.le_of_ble_eq_true rfl) dL_keeps_27 ⟨Nat.le_of_ble_eq_true rfl, Nat.le_of_ble_eq_true rfl⟩ (fun H locs hP hS => ?_)
  rw [show zlow 0 20 = 0 by decide +kernel]
  refine lv_tableIn (off := 78) (tgt := 108) hx hb dL_keeps_30 (by decide) (by decide) (by decide +kernel) (by decide) ?_
  refine lv_iload_n hx hb dL_keeps_108 rfl (lv_at hl 4 rfl) ?_
  refine lv_iconst (v := 3) hx hb dL_keeps_109 (by decide) ?_
  refine zq_cSi (As := [.int 10, .int 3]) (rest := []) ⟨hx, hb, hml, hown, hts⟩ (c_L_low l 10 3 (by decide)) (va_cwS 2 hts gL_keeps_L_low rfl rfl rfl (by decide +kernel) ⟨Nat.le_of_ble_eq_true rfl, Nat.le_of_ble_eq_true rfl⟩) hP hS rfl hl.1 rfl (Nat.le_of_ble_eq_true rfl) dL_keeps_110 ⟨Nat.le_of_ble_eq_true rfl, Nat.le_of_ble_eq_true rfl⟩ (fun H locs hP hS => ?_)
  rw [show zlow 10 3 = 2 by decide +kernel]
  refine lv_istore (lv' := [(15, .int 2), (14, .int (zlow 10 (nI (M + 1)))), (13, .int (zlow 10 (nI (N + 1)))), (0, .ref (a 0)), (1, .int 0), (2, .int 10), (3, .ref (v 1)), (4, .ref (v 2)), (5, .ref (v 3)), (6, .ref (v 4)), (7, .ref (v 5)), (8, .ref (v 6)), (9, .ref (v 7)), (10, .ref (v 8)), (11, .ref (v 9)), (12, .ref (v 10))]) hx hb dL_keeps_113 hl (by decide) rfl (fun ls hl => ?_)
  refine lv_aload hx hb dL_keeps_115 (lv_at hl 15 rfl) ?_
  refine lv_iconst (v := 0) hx hb dL_keeps_117 (by decide) ?_
  refine zq_iald hx hb hK hP 24 0 rfl rfl (j := 0) (by decide) (by decide) dL_keeps_118 ?_
  rw [hg0]
  refine lv_bipush (v := 40) hx hb dL_keeps_119 (by decide) ?_
  refine lv_icmp_ne (tgt := 151) hx hb dL_keeps_121 (by decide) (fun c_0 => ?_) (fun c_0 => ?_)
  · have d_0 := (fun h => c_0 ((nI_eq (a := N) (b := 40) (by omega) (by omega)).mpr h) : ¬ N = 40)
    refine lv_aload_n hx hb dL_keeps_151 rfl (lv_at hl 6 rfl) ?_
    refine lv_aload hx hb dL_keeps_152 (lv_at hl 15 rfl) ?_
    refine lv_iconst (v := 0) hx hb dL_keeps_154 (by decide) ?_
    refine zq_iald hx hb hK hP 24 0 rfl rfl (j := 0) (by decide) (by decide) dL_keeps_155 ?_
    rw [hg0]
    refine lv_iload hx hb dL_keeps_156 (lv_at hl 0 rfl) ?_
    refine zq_iast hx hb hK hP hD hS 15 0 rfl rfl (j := N) (by omega) (by decide) (wLw a v cI cZ cD ki pl tu le ch ca (nI N) tk th hu od (nI M) ti be clk (upd lL N 2) lC lF lW lM lB lH lR lD lG) rfl dL_keeps_158 (fun H locs hP hD hS => ?_)
    refine lv_aload hx hb dL_keeps_159 (lv_at hl 7 rfl) ?_
    refine lv_aload hx hb dL_keeps_161 (lv_at hl 15 rfl) ?_
    refine lv_iconst (v := 0) hx hb dL_keeps_163 (by decide) ?_
    refine zq_iald hx hb hK hP 24 0 rfl rfl (j := 0) (by decide) (by decide) dL_keeps_164 ?_
    rw [hg0]
    refine lv_iload hx hb dL_keeps_165 (lv_at hl 0 rfl) ?_
    refine zq_cSd (As := [.int 2]) (rest := [.int (nI N), .ref (v 2)]) ⟨hx, hb, hml, hown, hts⟩ (c_L_fresh l ) (va_cwS 1 hts gL_keeps_L_fresh rfl rfl rfl (by decide +kernel) ⟨Nat.le_of_ble_eq_true rfl, Nat.le_of_ble_eq_true rfl⟩) hP hS rfl hl.1 rfl (Nat.le_of_ble_eq_true rfl) dL_keeps_167 ⟨Nat.le_of_ble_eq_true rfl, Nat.le_of_ble_eq_true rfl⟩ (fun H locs hP hS => ?_)
    refine zq_dast hx hb hK hP hD hS 16 2 rfl rfl (j := N) (by omega) (by decide) (wLw a v cI cZ cD ki pl tu le ch ca (nI N) tk th hu od (nI M) ti be clk (upd lL N 2) (vf_upd lC N 4626322717216342016) lF lW lM lB lH lR lD lG) rfl dL_keeps_170 (fun H locs hP hD hS => ?_)
    refine lv_aload hx hb dL_keeps_171 (lv_at hl 8 rfl) ?_
    refine lv_aload hx hb dL_keeps_173 (lv_at hl 15 rfl) ?_
    refine lv_iconst (v := 0) hx hb dL_keeps_175 (by decide) ?_
    refine zq_iald hx hb hK hP 24 0 rfl rfl (j := 0) (by decide) (by decide) dL_keeps_176 ?_
    rw [hg0]
    refine lv_iload hx hb dL_keeps_177 (lv_at hl 0 rfl) ?_
    refine zq_cSd (As := [.int 2]) (rest := [.int (nI N), .ref (v 3)]) ⟨hx, hb, hml, hown, hts⟩ (c_L_fresh l ) (va_cwS 1 hts gL_keeps_L_fresh rfl rfl rfl (by decide +kernel) ⟨Nat.le_of_ble_eq_true rfl, Nat.le_of_ble_eq_true rfl⟩) hP hS rfl hl.1 rfl (Nat.le_of_ble_eq_true rfl) dL_keeps_179 ⟨Nat.le_of_ble_eq_true rfl, Nat.le_of_ble_eq_true rfl⟩ (fun H locs hP hS => ?_)
    refine zq_dast hx hb hK hP hD hS 17 2 rfl rfl (j := N) (by omega) (by decide) (wLw a v cI cZ cD ki pl tu le ch ca (nI N) tk th hu od (nI M) ti be clk (upd lL N 2) (vf_upd lC N 4626322717216342016) (vf_upd lF N 4626322717216342016) lW lM lB lH lR lD lG) rfl dL_keeps_182 (fun H locs hP hD hS => ?_)
    refine lv_aload hx hb dL_keeps_183 (lv_at hl 15 rfl) ?_
    refine lv_iconst (v := 0) hx hb dL_keeps_185 (by decide) ?_
    refine lv_dup2_11 hx hb dL_keeps_186 rfl rfl ?_
    refine zq_iald hx hb hK hP 24 0 rfl rfl (j := 0) (by decide) (by decide) dL_keeps_187 ?_
    rw [hg0]
    refine lv_iconst (v := 1) hx hb dL_keeps_188 (by decide) ?_
    refine t_iadd hx hb dL_keeps_189 (v := nI (N + 1)) (nI_1 _) ?_
    refine zq_iast hx hb hK hP hD hS 24 0 rfl rfl (j := 0) (by omega) (by decide) (wLw a v cI cZ cD ki pl tu le ch ca (nI N) tk th hu od (nI M) ti be clk (upd lL N 2) (vf_upd lC N 4626322717216342016) (vf_upd lF N 4626322717216342016) lW lM lB lH lR lD (upd lG 0 (nI (N + 1)))) rfl dL_keeps_190 (fun H locs hP hD hS => ?_)
    refine lv_aload_n hx hb dL_keeps_191 rfl (lv_at hl 3 rfl) ?_
    refine lv_iload hx hb dL_keeps_192 (lv_at hl 0 rfl) ?_
    refine zq_cWi (As := [.ref (a 0), .int 2]) (rest := []) (wc := (wRo a cI cZ cD ki pl tu le ch ca (nI N) tk th hu od (nI M) ti be clk)) (w1 := (wRo a cI cZ cD (upd ki N 2) (upd pl N 0) tu le (vf_upd ch N (la_new 2)) (vf_upd ca N (la_new 2)) (nI (N + 1)) tk th hu od (nI M) ti be clk)) (wr := (wAr v cI cD (upd lL N 2) (vf_upd lC N 4626322717216342016) (vf_upd lF N 4626322717216342016) lW lM lB lH lR lD (upd lG 0 (nI (N + 1))))) (ws' := (wLw a v cI cZ cD (upd ki N 2) (upd pl N 0) tu le (vf_upd ch N (la_new 2)) (vf_upd ca N (la_new 2)) (nI (N + 1)) tk th hu od (nI M) ti be clk (upd lL N 2) (vf_upd lC N 4626322717216342016) (vf_upd lF N 4626322717216342016) lW lM lB lH lR lD (upd lG 0 (nI (N + 1))))) ⟨hx, hb, hml, hown, hts⟩ (c_L_addLamp_ok l dC dI a cI cZ cD ki pl tu le ch ca N tk th hu od M ti be clk (by omega) (by omega) 2 (by decide +kernel) (by omega) H.size) (vx_cwSW 2 hts gL_keeps_L_addLamp rfl rfl rfl (by decide +kernel) ⟨Nat.le_of_ble_eq_true rfl, Nat.le_of_ble_eq_true rfl⟩) hK hP hD hS hA [0, 1, 2, 3, 4, 5, 6, 7, 8, 9, 10, 11, 12, 13, 14] [15, 16, 17, 18, 19, 20, 21, 22, 23, 24] [10, 11, 12, 13, 14, 15, 16, 17, 18, 19, 20, 21, 22, 23, 24, 0, 1, 2, 3, 4, 5, 6, 7, 8, 9] rfl rfl rfl rfl (by decide) rfl rfl rfl hl.1 rfl (Nat.le_of_ble_eq_true rfl) dL_keeps_194 ⟨Nat.le_of_ble_eq_true rfl, Nat.le_of_ble_eq_true rfl⟩ (fun H locs hP hD hS => ?_)
    refine lv_aload hx hb dL_keeps_197 (lv_at hl 15 rfl) ?_
    refine lv_iconst (v := 0) hx hb dL_keeps_199 (by decide) ?_
    refine zq_iald hx hb hK hP 24 0 rfl rfl (j := 0) (by decide) (by decide) dL_keeps_200 ?_
    rw [pk_us]
    refine lv_iconst (v := 1) hx hb dL_keeps_201 (by decide) ?_
    refine t_isub hx hb dL_keeps_202 (v := nI N) (nI_pred N) ?_
    refine lv_icmp_ne (tgt := 220) hx hb dL_keeps_203 (by decide) (fun c_1 => ?_) (fun c_1 => ?_)
    · have d_1 := (fun h => c_1 ((nI_eq (a := N) (b := N) (by omega) (by omega)).mpr h) : ¬ N = N)
      exact absurd rfl d_1
    · have d_1 := (nI_eq (a := N) (b := N) (by omega) (by omega)).mp c_1
      refine lv_aload_n hx hb dL_keeps_206 rfl (lv_at hl 3 rfl) ?_
      refine lv_iconst (v := (-1)) hx hb dL_keeps_207 (by decide) ?_
      refine zl_cWi (As := [.ref (a 0), .int (-1)]) (rest := []) (wc := (wRo a cI cZ cD (upd ki N 2) (upd pl N 0) tu le (vf_upd ch N (la_new 2)) (vf_upd ca N (la_new 2)) (nI (N + 1)) tk th hu od (nI M) ti be clk)) (wr := (wAr v cI cD (upd lL N 2) (vf_upd lC N 4626322717216342016) (vf_upd lF N 4626322717216342016) lW lM lB lH lR lD (upd lG 0 (nI (N + 1))))) ⟨hx, hb, hml, hown, hts⟩ (c_L_addLamp_bad l hl0 dC dI a cI cZ cD (upd ki N 2) (upd pl N 0) tu le (vf_upd ch N (la_new 2)) (vf_upd ca N (la_new 2)) (N + 1) tk th hu od M ti be clk (by omega) (by omega) (-1) (by decide +kernel) H.size) (vx_cwSW 2 hts gL_keeps_L_addLamp rfl rfl rfl (by decide +kernel) ⟨Nat.le_of_ble_eq_true rfl, Nat.le_of_ble_eq_true rfl⟩) hK hP hD hS hA (hH.kept hS.2.1) hE [0, 1, 2, 3, 4, 5, 6, 7, 8, 9, 10, 11, 12, 13, 14] [15, 16, 17, 18, 19, 20, 21, 22, 23, 24] [10, 11, 12, 13, 14, 15, 16, 17, 18, 19, 20, 21, 22, 23, 24, 0, 1, 2, 3, 4, 5, 6, 7, 8, 9] rfl rfl rfl rfl (by decide) rfl rfl rfl hl.1 rfl (Nat.le_of_ble_eq_true rfl) dL_keeps_208 ⟨Nat.le_of_ble_eq_true rfl, Nat.le_of_ble_eq_true rfl⟩ (fun H locs hP hD hS hG => ?_)
      refine lv_bipush (v := (-62)) hx hb dL_keeps_211 (by decide) ?_
      refine lv_icmp_ne (tgt := 220) hx hb dL_keeps_213 (by decide) (fun c => absurd c (by decide)) (fun _ => ?_)
      refine lv_iconst (v := 1) hx hb dL_keeps_216 (by decide) ?_
      refine lv_goto (tgt := 221) hx hb dL_keeps_217 (by decide) ?_
      exact W.zret (v := 1) hx hb hr (by rfl) (zg_qi rfl hP hK hD hS hG) hS.2.2 dL_keeps_221
  · have d_0 := (nI_eq (a := N) (b := 40) (by omega) (by omega)).mp c_0
    exact absurd d_0 (by omega)

set_option maxHeartbeats 8000000 in
set_option maxRecDepth 100000 in
theorem c_L_keeps_miner (l : Launch) (hl0 : l.stackTraces = false) (dC : Nat → ClassId) (dI : Nat → Nat → Nat) (a : Nat → Nat) (cI cZ cD : ClassId) (ki pl tu le : Nat → Int32) (ch ca : Nat → UInt64) (N : Nat) (tk th hu od : Nat → Int32) (M : Nat) (ti : Int32) (be : Nat → Int32) (clk : Int32) (hN : N ≤ 40) (hM : M ≤ 30) (v : Nat → Nat) (lL : Nat → Int32) (lC lF : Nat → UInt64) (lW lM lB lH lR lD lG : Nat → Int32) (hg0 : lG 0 = nI N) (hg1 : lG 1 = nI M) (hM5 : M < 30) (sz : Nat) : zg_M l yL_keeps wsL_keeps ({ frames := 9, cells := 1, slots := 6, locals := 154 } : Room) (dC, dI) (zq_T cI cZ cD) [.ref (a 0), .int 4, .int 10, .ref (v 1), .ref (v 2), .ref (v 3), .ref (v 4), .ref (v 5), .ref (v 6), .ref (v 7), .ref (v 8), .ref (v 9), .ref (v 10)] (wLw a v cI cZ cD ki pl tu le ch ca (nI N) tk th hu od (nI M) ti be clk lL lC lF lW lM lB lH lR lD lG) 1 (wLw a v cI cZ cD ki pl tu le ch ca (nI N) (upd tk M 2) (upd th M (-1)) hu od (nI (M + 1)) ti be clk lL lC lF (upd lW M 2) (upd lM M 0) lB lH lR lD (upd lG 1 (nI (M + 1)))) sz 1 6 := by
  refine Met.ofW (cc := cL_keeps) (maxL := 23) (ret := (some .boolean)) (by decide) rfl ?_
  intro p e s m args below meth c s₁ B hml hv
  obtain ⟨rfl, ⟨hsz, hP, hK, hD0⟩, hH, hE⟩ := hv
  have hx := B.exec
  have hb := B.bytes
  have hr := B.returns
  have hts := atoms_spec (ws := wsL_keeps) B.pre
  have hown : s.vm.findClass RL = some m.cls := findClass_of_methodNamed B.named
  have hlocks := B.notSynchronized
  subst hsz
  have hD := hD0.self (sz := s.heap.size)
  generalize hAe : va_A (wLw a v cI cZ cD ki pl tu le ch ca (nI N) tk th hu od (nI M) ti be clk lL lC lF lW lM lB lH lR lD lG) s.heap.size = A at hD hH ⊢
  have hA : ∀ q : Nat, s.heap.size ≤ q → A q := fun q h => by rw [← hAe]; exact Or.inr h
  have hS : va_S A s.heap s.heap [] := va_S.rf
  have hP : va_P (dC, dI) vwCl (wLw a v cI cZ cD ki pl tu le ch ca (nI N) tk th hu od (nI M) ti be clk lL lC lF lW lM lB lH lR lD lG) s.heap := hP
  have hl := lv_entry ([.ref (a 0), .int 4, .int 10, .ref (v 1), .ref (v 2), .ref (v 3), .ref (v 4), .ref (v 5), .ref (v 6), .ref (v 7), .ref (v 8), .ref (v 9), .ref (v 10)]) (n := 23) (Nat.le_of_ble_eq_true rfl)
  rw [lg_entry_eq]
  generalize (lg_sl ([.ref (a 0), .int 4, .int 10, .ref (v 1), .ref (v 2), .ref (v 3), .ref (v 4), .ref (v 5), .ref (v 6), .ref (v 7), .ref (v 8), .ref (v 9), .ref (v 10)]) ++ List.replicate (23 - (lg_sl ([.ref (a 0), .int 4, .int 10, .ref (v 1), .ref (v 2), .ref (v 3), .ref (v 4), .ref (v 5), .ref (v 6), .ref (v 7), .ref (v 8), .ref (v 9), .ref (v 10)])).length) Slot.unset).toArray = ls at hl ⊢
  have hl : lv_has ls 23 [(0, .ref (a 0)), (1, .int 4), (2, .int 10), (3, .ref (v 1)), (4, .ref (v 2)), (5, .ref (v 3)), (6, .ref (v 4)), (7, .ref (v 5)), (8, .ref (v 6)), (9, .ref (v 7)), (10, .ref (v 8)), (11, .ref (v 9)), (12, .ref (v 10))] := hl
  refine lv_iload_n hx hb dL_keeps_0 rfl (lv_at hl 2 rfl) ?_
  refine lv_aload hx hb dL_keeps_1 (lv_at hl 12 rfl) ?_
  refine lv_iconst (v := 0) hx hb dL_keeps_3 (by decide) ?_
  refine zq_iald hx hb hK hP 24 0 rfl rfl (j := 0) (by decide) (by decide) dL_keeps_4 ?_
  rw [hg0]
  refine lv_iconst (v := 1) hx hb dL_keeps_5 (by decide) ?_
  refine t_iadd hx hb dL_keeps_6 (v := nI (N + 1)) (nI_1 _) ?_
  refine zq_cSi (As := [.int 10, .int (nI (N + 1))]) (rest := []) ⟨hx, hb, hml, hown, hts⟩ (c_L_low l 10 (nI (N + 1)) (nI_ne0 (by omega) (by omega))) (va_cwS 2 hts gL_keeps_L_low rfl rfl rfl (by decide +kernel) ⟨Nat.le_of_ble_eq_true rfl, Nat.le_of_ble_eq_true rfl⟩) hP hS rfl hl.1 rfl (Nat.le_of_ble_eq_true rfl) dL_keeps_7 ⟨Nat.le_of_ble_eq_true rfl, Nat.le_of_ble_eq_true rfl⟩ (fun H locs hP hS => ?_)
  refine lv_istore (lv' := [(13, .int (zlow 10 (nI (N + 1)))), (0, .ref (a 0)), (1, .int 4), (2, .int 10), (3, .ref (v 1)), (4, .ref (v 2)), (5, .ref (v 3)), (6, .ref (v 4)), (7, .ref (v 5)), (8, .ref (v 6)), (9, .ref (v 7)), (10, .ref (v 8)), (11, .ref (v 9)), (12, .ref (v 10))]) hx hb dL_keeps_10 hl (by decide) rfl (fun ls hl => ?_)
  refine lv_iload_n hx hb dL_keeps_12 rfl (lv_at hl 3 rfl) ?_
  refine lv_aload hx hb dL_keeps_13 (lv_at hl 13 rfl) ?_
  refine lv_iconst (v := 1) hx hb dL_keeps_15 (by decide) ?_
  refine zq_iald hx hb hK hP 24 0 rfl rfl (j := 1) (by decide) (by decide) dL_keeps_16 ?_
  rw [hg1]
  refine lv_iconst (v := 1) hx hb dL_keeps_17 (by decide) ?_
  refine t_iadd hx hb dL_keeps_18 (v := nI (M + 1)) (nI_1 _) ?_
  refine zq_cSi (As := [.int 10, .int (nI (M + 1))]) (rest := []) ⟨hx, hb, hml, hown, hts⟩ (c_L_low l 10 (nI (M + 1)) (nI_ne0 (by omega) (by omega))) (va_cwS 2 hts gL_keeps_L_low rfl rfl rfl (by decide +kernel) ⟨Nat.le_of_ble_eq_true rfl, Nat.le_of_ble_eq_true rfl⟩) hP hS rfl hl.1 rfl (Nat.le_of_ble_eq_true rfl) dL_keeps_19 ⟨Nat.le_of_ble_eq_true rfl, Nat.le_of_ble_eq_true rfl⟩ (fun H locs hP hS => ?_)
  refine lv_istore (lv' := [(14, .int (zlow 10 (nI (M + 1)))), (13, .int (zlow 10 (nI (N + 1)))), (0, .ref (a 0)), (1, .int 4), (2, .int 10), (3, .ref (v 1)), (4, .ref (v 2)), (5, .ref (v 3)), (6, .ref (v 4)), (7, .ref (v 5)), (8, .ref (v 6)), (9, .ref (v 7)), (10, .ref (v 8)), (11, .ref (v 9)), (12, .ref (v 10))]) hx hb dL_keeps_22 hl (by decide) rfl (fun ls hl => ?_)
  refine lv_iload_n hx hb dL_keeps_24 rfl (lv_at hl 3 rfl) ?_
  refine lv_bipush (v := 20) hx hb dL_keeps_25 (by decide) ?_
  refine zq_cSi (As := [.int 4, .int 20]) (rest := []) ⟨hx, hb, hml, hown, hts⟩ (c_L_low l 4 20 (by decide)) (va_cwS 2 hts gL_keeps_L_low rfl rfl rfl (by decide +kernel) ⟨Nat.le_of_ble_eq_true rfl, Nat.le_of_ble_eq_true rfl⟩) hP hS rfl hl.1 rfl (Nat.le_of_ble_eq_true rfl) dL_keeps_27 ⟨Nat.le_of_ble_eq_true rfl, Nat.le_of_ble_eq_true rfl⟩ (fun H locs hP hS => ?_)
  rw [show zlow 4 20 = 2 by decide +kernel]
  refine lv_tableIn (off := 192) (tgt := 222) hx hb dL_keeps_30 (by decide) (by decide) (by decide +kernel) (by decide) ?_
  refine lv_aload hx hb dL_keeps_222 (lv_at hl 14 rfl) ?_
  refine lv_iconst (v := 1) hx hb dL_keeps_224 (by decide) ?_
  refine zq_iald hx hb hK hP 24 0 rfl rfl (j := 1) (by decide) (by decide) dL_keeps_225 ?_
  rw [hg1]
  refine lv_bipush (v := 30) hx hb dL_keeps_226 (by decide) ?_
  refine lv_icmp_ne (tgt := 247) hx hb dL_keeps_228 (by decide) (fun c_0 => ?_) (fun c_0 => ?_)
  · have d_0 := (fun h => c_0 ((nI_eq (a := M) (b := 30) (by omega) (by omega)).mpr h) : ¬ M = 30)
    refine lv_aload hx hb dL_keeps_247 (lv_at hl 8 rfl) ?_
    refine lv_aload hx hb dL_keeps_249 (lv_at hl 14 rfl) ?_
    refine lv_iconst (v := 1) hx hb dL_keeps_251 (by decide) ?_
    refine zq_iald hx hb hK hP 24 0 rfl rfl (j := 1) (by decide) (by decide) dL_keeps_252 ?_
    rw [hg1]
    refine lv_iload_n hx hb dL_keeps_253 rfl (lv_at hl 4 rfl) ?_
    refine lv_iconst (v := 3) hx hb dL_keeps_254 (by decide) ?_
    refine zq_cSi (As := [.int 10, .int 3]) (rest := [.int (nI M), .ref (v 4)]) ⟨hx, hb, hml, hown, hts⟩ (c_L_low l 10 3 (by decide)) (va_cwS 2 hts gL_keeps_L_low rfl rfl rfl (by decide +kernel) ⟨Nat.le_of_ble_eq_true rfl, Nat.le_of_ble_eq_true rfl⟩) hP hS rfl hl.1 rfl (Nat.le_of_ble_eq_true rfl) dL_keeps_255 ⟨Nat.le_of_ble_eq_true rfl, Nat.le_of_ble_eq_true rfl⟩ (fun H locs hP hS => ?_)
    rw [show zlow 10 3 = 2 by decide +kernel]
    refine zq_iast hx hb hK hP hD hS 18 0 rfl rfl (j := M) (by omega) (by decide) (wLw a v cI cZ cD ki pl tu le ch ca (nI N) tk th hu od (nI M) ti be clk lL lC lF (upd lW M 2) lM lB lH lR lD lG) rfl dL_keeps_258 (fun H locs hP hD hS => ?_)
    refine lv_aload hx hb dL_keeps_259 (lv_at hl 9 rfl) ?_
    refine lv_aload hx hb dL_keeps_261 (lv_at hl 14 rfl) ?_
    refine lv_iconst (v := 1) hx hb dL_keeps_263 (by decide) ?_
    refine zq_iald hx hb hK hP 24 0 rfl rfl (j := 1) (by decide) (by decide) dL_keeps_264 ?_
    rw [hg1]
    refine lv_iconst (v := 0) hx hb dL_keeps_265 (by decide) ?_
    refine zq_iast hx hb hK hP hD hS 19 0 rfl rfl (j := M) (by omega) (by decide) (wLw a v cI cZ cD ki pl tu le ch ca (nI N) tk th hu od (nI M) ti be clk lL lC lF (upd lW M 2) (upd lM M 0) lB lH lR lD lG) rfl dL_keeps_266 (fun H locs hP hD hS => ?_)
    refine lv_aload hx hb dL_keeps_267 (lv_at hl 14 rfl) ?_
    refine lv_iconst (v := 1) hx hb dL_keeps_269 (by decide) ?_
    refine lv_dup2_11 hx hb dL_keeps_270 rfl rfl ?_
    refine zq_iald hx hb hK hP 24 0 rfl rfl (j := 1) (by decide) (by decide) dL_keeps_271 ?_
    rw [hg1]
    refine lv_iconst (v := 1) hx hb dL_keeps_272 (by decide) ?_
    refine t_iadd hx hb dL_keeps_273 (v := nI (M + 1)) (nI_1 _) ?_
    refine zq_iast hx hb hK hP hD hS 24 0 rfl rfl (j := 1) (by omega) (by decide) (wLw a v cI cZ cD ki pl tu le ch ca (nI N) tk th hu od (nI M) ti be clk lL lC lF (upd lW M 2) (upd lM M 0) lB lH lR lD (upd lG 1 (nI (M + 1)))) rfl dL_keeps_274 (fun H locs hP hD hS => ?_)
    refine lv_aload_n hx hb dL_keeps_275 rfl (lv_at hl 2 rfl) ?_
    refine lv_aload hx hb dL_keeps_276 (lv_at hl 8 rfl) ?_
    refine lv_aload hx hb dL_keeps_278 (lv_at hl 14 rfl) ?_
    refine lv_iconst (v := 1) hx hb dL_keeps_280 (by decide) ?_
    refine zq_iald hx hb hK hP 24 0 rfl rfl (j := 1) (by decide) (by decide) dL_keeps_281 ?_
    rw [pk_us]
    refine lv_iconst (v := 1) hx hb dL_keeps_282 (by decide) ?_
    refine t_isub hx hb dL_keeps_283 (v := nI M) (nI_pred M) ?_
    refine zq_iald hx hb hK hP 18 0 rfl rfl (j := M) (by omega) (by decide) dL_keeps_284 ?_
    rw [pk_us]
    refine zq_cWi (As := [.ref (a 0), .int 2]) (rest := []) (wc := (wRo a cI cZ cD ki pl tu le ch ca (nI N) tk th hu od (nI M) ti be clk)) (w1 := (wRo a cI cZ cD ki pl tu le ch ca (nI N) (upd tk M 2) (upd th M (-1)) hu od (nI (M + 1)) ti be clk)) (wr := (wAr v cI cD lL lC lF (upd lW M 2) (upd lM M 0) lB lH lR lD (upd lG 1 (nI (M + 1))))) (ws' := (wLw a v cI cZ cD ki pl tu le ch ca (nI N) (upd tk M 2) (upd th M (-1)) hu od (nI (M + 1)) ti be clk lL lC lF (upd lW M 2) (upd lM M 0) lB lH lR lD (upd lG 1 (nI (M + 1))))) ⟨hx, hb, hml, hown, hts⟩ (c_L_addMiner_ok l dC dI a cI cZ cD ki pl tu le ch ca N tk th hu od M ti be clk (by omega) (by omega) 2 (by decide +kernel) (by omega) H.size) (vx_cwSW 2 hts gL_keeps_L_addMiner rfl rfl rfl (by decide +kernel) ⟨Nat.le_of_ble_eq_true rfl, Nat.le_of_ble_eq_true rfl⟩) hK hP hD hS hA [0, 1, 2, 3, 4, 5, 6, 7, 8, 9, 10, 11, 12, 13, 14] [15, 16, 17, 18, 19, 20, 21, 22, 23, 24] [10, 11, 12, 13, 14, 15, 16, 17, 18, 19, 20, 21, 22, 23, 24, 0, 1, 2, 3, 4, 5, 6, 7, 8, 9] rfl rfl rfl rfl (by decide) rfl rfl rfl hl.1 rfl (Nat.le_of_ble_eq_true rfl) dL_keeps_285 ⟨Nat.le_of_ble_eq_true rfl, Nat.le_of_ble_eq_true rfl⟩ (fun H locs hP hD hS => ?_)
    refine lv_aload hx hb dL_keeps_288 (lv_at hl 14 rfl) ?_
    refine lv_iconst (v := 1) hx hb dL_keeps_290 (by decide) ?_
    refine zq_iald hx hb hK hP 24 0 rfl rfl (j := 1) (by decide) (by decide) dL_keeps_291 ?_
    rw [pk_us]
    refine lv_iconst (v := 1) hx hb dL_keeps_292 (by decide) ?_
    refine t_isub hx hb dL_keeps_293 (v := nI M) (nI_pred M) ?_
    refine lv_icmp_ne (tgt := 311) hx hb dL_keeps_294 (by decide) (fun c_1 => ?_) (fun c_1 => ?_)
    · have d_1 := (fun h => c_1 ((nI_eq (a := M) (b := M) (by omega) (by omega)).mpr h) : ¬ M = M)
      exact absurd rfl d_1
    · have d_1 := (nI_eq (a := M) (b := M) (by omega) (by omega)).mp c_1
      refine lv_aload_n hx hb dL_keeps_297 rfl (lv_at hl 2 rfl) ?_
      refine lv_iconst (v := 3) hx hb dL_keeps_298 (by decide) ?_
      refine zl_cWi (As := [.ref (a 0), .int 3]) (rest := []) (wc := (wRo a cI cZ cD ki pl tu le ch ca (nI N) (upd tk M 2) (upd th M (-1)) hu od (nI (M + 1)) ti be clk)) (wr := (wAr v cI cD lL lC lF (upd lW M 2) (upd lM M 0) lB lH lR lD (upd lG 1 (nI (M + 1))))) ⟨hx, hb, hml, hown, hts⟩ (c_L_addMiner_bad l hl0 dC dI a cI cZ cD ki pl tu le ch ca N (upd tk M 2) (upd th M (-1)) hu od (M + 1) ti be clk (by omega) (by omega) 3 (by decide +kernel) H.size) (vx_cwSW 2 hts gL_keeps_L_addMiner rfl rfl rfl (by decide +kernel) ⟨Nat.le_of_ble_eq_true rfl, Nat.le_of_ble_eq_true rfl⟩) hK hP hD hS hA (hH.kept hS.2.1) hE [0, 1, 2, 3, 4, 5, 6, 7, 8, 9, 10, 11, 12, 13, 14] [15, 16, 17, 18, 19, 20, 21, 22, 23, 24] [10, 11, 12, 13, 14, 15, 16, 17, 18, 19, 20, 21, 22, 23, 24, 0, 1, 2, 3, 4, 5, 6, 7, 8, 9] rfl rfl rfl rfl (by decide) rfl rfl rfl hl.1 rfl (Nat.le_of_ble_eq_true rfl) dL_keeps_299 ⟨Nat.le_of_ble_eq_true rfl, Nat.le_of_ble_eq_true rfl⟩ (fun H locs hP hD hS hG => ?_)
      refine lv_bipush (v := (-62)) hx hb dL_keeps_302 (by decide) ?_
      refine lv_icmp_ne (tgt := 311) hx hb dL_keeps_304 (by decide) (fun c => absurd c (by decide)) (fun _ => ?_)
      refine lv_iconst (v := 1) hx hb dL_keeps_307 (by decide) ?_
      refine lv_goto (tgt := 312) hx hb dL_keeps_308 (by decide) ?_
      exact W.zret (v := 1) hx hb hr (by rfl) (zg_qi rfl hP hK hD hS hG) hS.2.2 dL_keeps_312
  · have d_0 := (nI_eq (a := M) (b := 30) (by omega) (by omega)).mp c_0
    exact absurd d_0 (by omega)

set_option maxHeartbeats 8000000 in
set_option maxRecDepth 100000 in
theorem c_L_keeps_test (l : Launch) (hl0 : l.stackTraces = false) (dC : Nat → ClassId) (dI : Nat → Nat → Nat) (a : Nat → Nat) (cI cZ cD : ClassId) (ki pl tu le : Nat → Int32) (ch ca : Nat → UInt64) (N : Nat) (tk th hu od : Nat → Int32) (M : Nat) (ti : Int32) (be : Nat → Int32) (clk : Int32) (hN : N ≤ 40) (hM : M ≤ 30) (v : Nat → Nat) (lL : Nat → Int32) (lC lF : Nat → UInt64) (lW lM lB lH lR lD lG : Nat → Int32) (hg0 : lG 0 = nI N) (hg1 : lG 1 = nI M) (hN5 : N = 5) (sz : Nat) : zg_M l yL_keeps wsL_keeps ({ frames := 9, cells := 2, slots := 12, locals := 156 } : Room) (dC, dI) (zq_T cI cZ cD) [.ref (a 0), .int 26, .int 10, .ref (v 1), .ref (v 2), .ref (v 3), .ref (v 4), .ref (v 5), .ref (v 6), .ref (v 7), .ref (v 8), .ref (v 9), .ref (v 10)] (wLw a v cI cZ cD ki pl tu le ch ca (nI N) tk th hu od (nI M) ti be clk lL lC lF lW lM lB lH lR lD lG) 1 (wLw a v cI cZ cD ki pl tu le ch ca (nI N) tk th hu od (nI M) ti be clk lL lC lF lW lM lB lH lR lD lG) sz 2 12 := by
  refine Met.ofW (cc := cL_keeps) (maxL := 23) (ret := (some .boolean)) (by decide) rfl ?_
  intro p e s m args below meth c s₁ B hml hv
  obtain ⟨rfl, ⟨hsz, hP, hK, hD0⟩, hH, hE⟩ := hv
  have hx := B.exec
  have hb := B.bytes
  have hr := B.returns
  have hts := atoms_spec (ws := wsL_keeps) B.pre
  have hown : s.vm.findClass RL = some m.cls := findClass_of_methodNamed B.named
  have hlocks := B.notSynchronized
  subst hsz
  have hD := hD0.self (sz := s.heap.size)
  generalize hAe : va_A (wLw a v cI cZ cD ki pl tu le ch ca (nI N) tk th hu od (nI M) ti be clk lL lC lF lW lM lB lH lR lD lG) s.heap.size = A at hD hH ⊢
  have hA : ∀ q : Nat, s.heap.size ≤ q → A q := fun q h => by rw [← hAe]; exact Or.inr h
  have hS : va_S A s.heap s.heap [] := va_S.rf
  have hP : va_P (dC, dI) vwCl (wLw a v cI cZ cD ki pl tu le ch ca (nI N) tk th hu od (nI M) ti be clk lL lC lF lW lM lB lH lR lD lG) s.heap := hP
  have hl := lv_entry ([.ref (a 0), .int 26, .int 10, .ref (v 1), .ref (v 2), .ref (v 3), .ref (v 4), .ref (v 5), .ref (v 6), .ref (v 7), .ref (v 8), .ref (v 9), .ref (v 10)]) (n := 23) (Nat.le_of_ble_eq_true rfl)
  rw [lg_entry_eq]
  generalize (lg_sl ([.ref (a 0), .int 26, .int 10, .ref (v 1), .ref (v 2), .ref (v 3), .ref (v 4), .ref (v 5), .ref (v 6), .ref (v 7), .ref (v 8), .ref (v 9), .ref (v 10)]) ++ List.replicate (23 - (lg_sl ([.ref (a 0), .int 26, .int 10, .ref (v 1), .ref (v 2), .ref (v 3), .ref (v 4), .ref (v 5), .ref (v 6), .ref (v 7), .ref (v 8), .ref (v 9), .ref (v 10)])).length) Slot.unset).toArray = ls at hl ⊢
  have hl : lv_has ls 23 [(0, .ref (a 0)), (1, .int 26), (2, .int 10), (3, .ref (v 1)), (4, .ref (v 2)), (5, .ref (v 3)), (6, .ref (v 4)), (7, .ref (v 5)), (8, .ref (v 6)), (9, .ref (v 7)), (10, .ref (v 8)), (11, .ref (v 9)), (12, .ref (v 10))] := hl
  refine lv_iload_n hx hb dL_keeps_0 rfl (lv_at hl 2 rfl) ?_
  refine lv_aload hx hb dL_keeps_1 (lv_at hl 12 rfl) ?_
  refine lv_iconst (v := 0) hx hb dL_keeps_3 (by decide) ?_
  refine zq_iald hx hb hK hP 24 0 rfl rfl (j := 0) (by decide) (by decide) dL_keeps_4 ?_
  rw [hg0]
  refine lv_iconst (v := 1) hx hb dL_keeps_5 (by decide) ?_
  refine t_iadd hx hb dL_keeps_6 (v := nI (N + 1)) (nI_1 _) ?_
  refine zq_cSi (As := [.int 10, .int (nI (N + 1))]) (rest := []) ⟨hx, hb, hml, hown, hts⟩ (c_L_low l 10 (nI (N + 1)) (nI_ne0 (by omega) (by omega))) (va_cwS 2 hts gL_keeps_L_low rfl rfl rfl (by decide +kernel) ⟨Nat.le_of_ble_eq_true rfl, Nat.le_of_ble_eq_true rfl⟩) hP hS rfl hl.1 rfl (Nat.le_of_ble_eq_true rfl) dL_keeps_7 ⟨Nat.le_of_ble_eq_true rfl, Nat.le_of_ble_eq_true rfl⟩ (fun H locs hP hS => ?_)
  rw [show zlow 10 (nI (N + 1)) = nI N by subst hN5; decide +kernel]
  refine lv_istore (lv' := [(13, .int (nI N)), (0, .ref (a 0)), (1, .int 26), (2, .int 10), (3, .ref (v 1)), (4, .ref (v 2)), (5, .ref (v 3)), (6, .ref (v 4)), (7, .ref (v 5)), (8, .ref (v 6)), (9, .ref (v 7)), (10, .ref (v 8)), (11, .ref (v 9)), (12, .ref (v 10))]) hx hb dL_keeps_10 hl (by decide) rfl (fun ls hl => ?_)
  refine lv_iload_n hx hb dL_keeps_12 rfl (lv_at hl 3 rfl) ?_
  refine lv_aload hx hb dL_keeps_13 (lv_at hl 13 rfl) ?_
  refine lv_iconst (v := 1) hx hb dL_keeps_15 (by decide) ?_
  refine zq_iald hx hb hK hP 24 0 rfl rfl (j := 1) (by decide) (by decide) dL_keeps_16 ?_
  rw [hg1]
  refine lv_iconst (v := 1) hx hb dL_keeps_17 (by decide) ?_
  refine t_iadd hx hb dL_keeps_18 (v := nI (M + 1)) (nI_1 _) ?_
  refine zq_cSi (As := [.int 10, .int (nI (M + 1))]) (rest := []) ⟨hx, hb, hml, hown, hts⟩ (c_L_low l 10 (nI (M + 1)) (nI_ne0 (by omega) (by omega))) (va_cwS 2 hts gL_keeps_L_low rfl rfl rfl (by decide +kernel) ⟨Nat.le_of_ble_eq_true rfl, Nat.le_of_ble_eq_true rfl⟩) hP hS rfl hl.1 rfl (Nat.le_of_ble_eq_true rfl) dL_keeps_19 ⟨Nat.le_of_ble_eq_true rfl, Nat.le_of_ble_eq_true rfl⟩ (fun H locs hP hS => ?_)
  refine lv_istore (lv' := [(14, .int (zlow 10 (nI (M + 1)))), (13, .int (nI N)), (0, .ref (a 0)), (1, .int 26), (2, .int 10), (3, .ref (v 1)), (4, .ref (v 2)), (5, .ref (v 3)), (6, .ref (v 4)), (7, .ref (v 5)), (8, .ref (v 6)), (9, .ref (v 7)), (10, .ref (v 8)), (11, .ref (v 9)), (12, .ref (v 10))]) hx hb dL_keeps_22 hl (by decide) rfl (fun ls hl => ?_)
  refine lv_iload_n hx hb dL_keeps_24 rfl (lv_at hl 3 rfl) ?_
  refine lv_bipush (v := 20) hx hb dL_keeps_25 (by decide) ?_
  refine zq_cSi (As := [.int 26, .int 20]) (rest := []) ⟨hx, hb, hml, hown, hts⟩ (c_L_low l 26 20 (by decide)) (va_cwS 2 hts gL_keeps_L_low rfl rfl rfl (by decide +kernel) ⟨Nat.le_of_ble_eq_true rfl, Nat.le_of_ble_eq_true rfl⟩) hP hS rfl hl.1 rfl (Nat.le_of_ble_eq_true rfl) dL_keeps_27 ⟨Nat.le_of_ble_eq_true rfl, Nat.le_of_ble_eq_true rfl⟩ (fun H locs hP hS => ?_)
  rw [show zlow 26 20 = 13 by decide +kernel]
  refine lv_tableIn (off := 651) (tgt := 681) hx hb dL_keeps_30 (by decide) (by decide) (by decide +kernel) (by decide) ?_
  refine lv_iload hx hb dL_keeps_681 (lv_at hl 1 rfl) ?_
  refine lv_aload hx hb dL_keeps_683 (lv_at hl 14 rfl) ?_
  refine lv_iconst (v := 0) hx hb dL_keeps_685 (by decide) ?_
  refine zq_iald hx hb hK hP 24 0 rfl rfl (j := 0) (by decide) (by decide) dL_keeps_686 ?_
  rw [hg0]
  refine lv_icmp_ne (tgt := 718) hx hb dL_keeps_687 (by decide) (fun c_0 => ?_) (fun c_0 => ?_)
  · have d_0 := (fun h => c_0 ((nI_eq (a := N) (b := N) (by omega) (by omega)).mpr h) : ¬ N = N)
    exact absurd rfl d_0
  · have d_0 := (nI_eq (a := N) (b := N) (by omega) (by omega)).mp c_0
    refine lv_aload_n hx hb dL_keeps_690 rfl (lv_at hl 2 rfl) ?_
    refine lv_iload hx hb dL_keeps_691 (lv_at hl 1 rfl) ?_
    refine zl_cWi (As := [.ref (a 0), .int (nI N)]) (rest := []) (wc := (wRo a cI cZ cD ki pl tu le ch ca (nI N) tk th hu od (nI M) ti be clk)) (wr := (wAr v cI cD lL lC lF lW lM lB lH lR lD lG)) ⟨hx, hb, hml, hown, hts⟩ (c_L_test_bad l hl0 dC dI a cI cZ cD ki pl tu le ch ca N tk th hu od M ti be clk (by omega) (by omega) (nI N) (zw_top (by omega)) H.size) (vx_cwSW 2 hts gL_keeps_L_test rfl rfl rfl (by decide +kernel) ⟨Nat.le_of_ble_eq_true rfl, Nat.le_of_ble_eq_true rfl⟩) hK hP hD hS hA (hH.kept hS.2.1) hE [0, 1, 2, 3, 4, 5, 6, 7, 8, 9, 10, 11, 12, 13, 14] [15, 16, 17, 18, 19, 20, 21, 22, 23, 24] [10, 11, 12, 13, 14, 15, 16, 17, 18, 19, 20, 21, 22, 23, 24, 0, 1, 2, 3, 4, 5, 6, 7, 8, 9] rfl rfl rfl rfl (by decide) rfl rfl rfl hl.1 rfl (Nat.le_of_ble_eq_true rfl) dL_keeps_693 ⟨Nat.le_of_ble_eq_true rfl, Nat.le_of_ble_eq_true rfl⟩ (fun H locs hP hD hS hG => ?_)
    refine lv_bipush (v := (-61)) hx hb dL_keeps_696 (by decide) ?_
    refine lv_icmp_ne (tgt := 716) hx hb dL_keeps_698 (by decide) (fun c => absurd c (by decide)) (fun _ => ?_)
    refine lv_aload_n hx hb dL_keeps_701 rfl (lv_at hl 2 rfl) ?_
    refine lv_iload hx hb dL_keeps_702 (lv_at hl 1 rfl) ?_
    refine zl_cWi (As := [.ref (a 0), .int (nI N)]) (rest := []) (wc := (wRo a cI cZ cD ki pl tu le ch ca (nI N) tk th hu od (nI M) ti be clk)) (wr := (wAr v cI cD lL lC lF lW lM lB lH lR lD lG)) ⟨hx, hb, hml, hown, hts⟩ (c_L_mend_bad l hl0 dC dI a cI cZ cD ki pl tu le ch ca N tk th hu od M ti be clk (by omega) (by omega) (nI N) (zw_top (by omega)) H.size) (vx_cwSW 2 hts gL_keeps_L_mend rfl rfl rfl (by decide +kernel) ⟨Nat.le_of_ble_eq_true rfl, Nat.le_of_ble_eq_true rfl⟩) hK hP hD hS hA (hH.kept hS.2.1) hE [0, 1, 2, 3, 4, 5, 6, 7, 8, 9, 10, 11, 12, 13, 14] [15, 16, 17, 18, 19, 20, 21, 22, 23, 24] [10, 11, 12, 13, 14, 15, 16, 17, 18, 19, 20, 21, 22, 23, 24, 0, 1, 2, 3, 4, 5, 6, 7, 8, 9] rfl rfl rfl rfl (by decide) rfl rfl rfl hl.1 rfl (Nat.le_of_ble_eq_true rfl) dL_keeps_704 ⟨Nat.le_of_ble_eq_true rfl, Nat.le_of_ble_eq_true rfl⟩ (fun H locs hP hD hS hG => ?_)
    refine lv_bipush (v := (-61)) hx hb dL_keeps_707 (by decide) ?_
    refine lv_icmp_ne (tgt := 716) hx hb dL_keeps_709 (by decide) (fun c => absurd c (by decide)) (fun _ => ?_)
    refine lv_iconst (v := 1) hx hb dL_keeps_712 (by decide) ?_
    refine lv_goto (tgt := 717) hx hb dL_keeps_713 (by decide) ?_
    exact W.zret (v := 1) hx hb hr (by rfl) (zg_qi rfl hP hK hD hS hG) hS.2.2 dL_keeps_717

