/-! the law's loop on the script 26, 10, 26, 10, ..: each turn leaves three cells more, at least -/
theorem zw_u1 {f : Nat → Int32} {x : Int32} {n : Nat} (h : ∀ i, i < n → f i = x) : ∀ i, i < n + 1 → upd f n x i = x := fun i hi => by
  show (if i = n then x else f i) = x
  by_cases e : i = n
  · rw [if_pos e]
  · rw [if_neg e]
    exact h i (by omega)
theorem zw_u2 {f : Nat → UInt64} {x y : UInt64} {n : Nat} (hx : x = y) (h : ∀ i, i < n → f i = y) : ∀ i, i < n + 1 → vf_upd f n x i = y := fun i hi => by
  unfold vf_upd
  by_cases e : i = n
  · rw [if_pos e]
    exact hx
  · rw [if_neg e]
    exact h i (by omega)
theorem zw_n2 : la_new 2 = 4626322717216342016 := by decide +kernel
/-- N lamps, all of class 2, full and on the rack; M miners, none of them below; no alarm; the law's rows say the same -/
def zw_S (N M : Nat) (ki pl tu : Nat → Int32) (ch ca : Nat → UInt64) (th be lL : Nat → Int32) (lC lF : Nat → UInt64) (lM lG : Nat → Int32) : Prop :=
  lG 0 = nI N ∧ lG 1 = nI M ∧ (∀ i, i < M → th i = -1) ∧ (∀ i, i < M → lM i = 0) ∧ (∀ i, be i = 0) ∧ (∀ i, i < N → pl i = 0) ∧ (∀ i, tu i = 0) ∧ (∀ i, i < N → ch i = 4626322717216342016) ∧ (∀ i, i < N → ca i = 4626322717216342016) ∧ (∀ i, i < N → ki i = 2) ∧ (∀ i, i < N → lL i = 2) ∧ (∀ i, i < N → lC i = 4626322717216342016) ∧ (∀ i, i < N → lF i = 4626322717216342016) ∧ (∀ i, i < 40 → zn_p (ch i)) ∧ (∀ i, i < 40 → zn_p (ca i))
theorem zw_S.lamp {ki pl tu : Nat → Int32} {ch ca : Nat → UInt64} {N M : Nat} {th be lL : Nat → Int32} {lC lF : Nat → UInt64} {lM lG : Nat → Int32} (h : zw_S N M ki pl tu ch ca th be lL lC lF lM lG) : zw_S (N + 1) M (upd ki N 2) (upd pl N 0) tu (vf_upd ch N (la_new 2)) (vf_upd ca N (la_new 2)) th be (upd lL N 2) (vf_upd lC N 4626322717216342016) (vf_upd lF N 4626322717216342016) lM (upd lG 0 (nI (N + 1))) := by
  obtain ⟨hg0, hg1, hth, hm0, hbe, hpl, htu, hch, hca, hki, hlL, hlC, hlF, hp, hc⟩ := h
  exact ⟨rfl, hg1, hth, hm0, hbe, zw_u1 hpl, htu, zw_u2 zw_n2 hch, zw_u2 zw_n2 hca, zw_u1 hki, zw_u1 hlL, zw_u2 rfl hlC, zw_u2 rfl hlF, fun i hi => zn_up (zn_new 2) (hp i hi), fun i hi => zn_up (zn_new 2) (hc i hi)⟩
theorem zw_S.miner {ki pl tu : Nat → Int32} {ch ca : Nat → UInt64} {N M : Nat} {th be lL : Nat → Int32} {lC lF : Nat → UInt64} {lM lG : Nat → Int32} (h : zw_S N M ki pl tu ch ca th be lL lC lF lM lG) : zw_S N (M + 1) ki pl tu ch ca (upd th M (-1)) be lL lC lF (upd lM M 0) (upd lG 1 (nI (M + 1))) := by
  obtain ⟨hg0, hg1, hth, hm0, hbe, hpl, htu, hch, hca, hki, hlL, hlC, hlF, hp, hc⟩ := h
  exact ⟨hg0, rfl, zw_u1 hth, zw_u1 hm0, hbe, hpl, htu, hch, hca, hki, hlL, hlC, hlF, hp, hc⟩
def zw_I (D : va_G) (A : Nat → Prop) (s : State) (a v : Nat → Nat) (cI cZ cD : ClassId) (b i : Nat) (H : Heap) (locs : List Loc) (ls : Array Slot) : Prop := ∃ (ki pl tu le : Nat → Int32) (ch ca : Nat → UInt64) (N : Nat) (tk th hu od : Nat → Int32) (M : Nat) (ti : Int32) (be : Nat → Int32) (clk : Int32) (lL : Nat → Int32) (lC lF : Nat → UInt64) (lW lM lB lH lR lD lG : Nat → Int32), (N ≤ i ∧ N ≤ 5 ∧ (i ≤ N ∨ 5 ≤ N) ∧ M ≤ i - 5 ∧ M ≤ 5 ∧ (i - 5 ≤ M ∨ 5 ≤ M)) ∧ zw_S N M ki pl tu ch ca th be lL lC lF lM lG ∧ va_P D vwCl (wLw a v cI cZ cD ki pl tu le ch ca (nI N) tk th hu od (nI M) ti be clk lL lC lF lW lM lB lH lR lD lG) H ∧ va_D A (wLw a v cI cZ cD ki pl tu le ch ca (nI N) tk th hu od (nI M) ti be clk lL lC lF lW lM lB lH lR lD lG) ∧ va_S A s.heap H locs ∧ lv_has ls 16 [(12, .int (nI i)), (0, .ref b), (1, .ref (a 0)), (2, .ref (v 1)), (3, .ref (v 2)), (4, .ref (v 3)), (5, .ref (v 4)), (6, .ref (v 5)), (7, .ref (v 6)), (8, .ref (v 7)), (9, .ref (v 8)), (10, .ref (v 9)), (11, .ref (v 10))] ∧ s.heap.size + 3 * i ≤ H.size
abbrev room2 : Room := { frames := 12, cells := 800, slots := 6000, locals := 480 }
abbrev zc_M (l : Launch) (y : MethodName) (wsy : List Cond) (rm : Room) (b L : Nat) (xs : Nat → Int32) (j : Nat) : Prop :=
  Met l y wsy rm (va_Pc [.ref b, .int (nI j)] (fun U => va_X b L xs U U.heap)) (va_Qi (fun (r : Int32) (_ : Unit) => r = xs j) (fun _ _ => True) (fun _ => False)) 0 0 (fun _ => False)
set_option maxHeartbeats 4000000 in
set_option maxRecDepth 100000 in
theorem c_L_cell (l : Launch) (b L : Nat) (xs : Nat → Int32) (hL : L ≤ 260) (j : Nat) (hj : j < L) : zc_M l yL_cell wsL_cell ({ frames := 0, cells := 0, slots := 0, locals := 0 } : Room) b L xs j := by
  refine Met.ofW (cc := cL_cell) (maxL := 2) (ret := (some .int)) (by decide) rfl ?_
  intro p e s m args below meth c s₁ B hml hv
  obtain ⟨rfl, hX⟩ := hv
  have hx := B.exec
  have hb := B.bytes
  have hr := B.returns
  have hlocks := B.notSynchronized
  have hS : va_S (fun _ => False) s.heap s.heap [] := va_S.rf
  have hbl : b < s.heap.size := by
    obtain ⟨scr, h1, -⟩ := hX
    exact (Array.getElem?_eq_some_iff.mp h1).1
  have hl := lv_entry ([.ref b, .int (nI j)]) (n := 2) (Nat.le_of_ble_eq_true rfl)
  rw [lg_entry_eq]
  generalize (lg_sl ([.ref b, .int (nI j)]) ++ List.replicate (2 - (lg_sl ([.ref b, .int (nI j)])).length) Slot.unset).toArray = ls at hl ⊢
  have hl : lv_has ls 2 [(0, .ref b), (1, .int (nI j))] := hl
  refine lv_iload_n hx hb dL_cell_0 rfl (lv_at hl 1 rfl) ?_
  refine lv_aload_n hx hb dL_cell_1 rfl (lv_at hl 0 rfl) ?_
  refine va_slen hx hb hX hbl (fun h => h) hS dL_cell_2 ?_
  refine lv_icmp_ge (tgt := 12) hx hb dL_cell_3 (by decide) (fun c9 => absurd ((nI_leI (a := L) (b := j) (by omega) (by omega)).mp c9) (by omega)) (fun _ => ?_)
  refine lv_aload_n hx hb dL_cell_6 rfl (lv_at hl 0 rfl) ?_
  refine lv_iload_n hx hb dL_cell_7 rfl (lv_at hl 1 rfl) ?_
  refine va_sld hx hb hX hbl (fun h => h) hS (vp_in_nI hj (by omega)) dL_cell_8 ?_
  rw [nI_clamp (by omega)]
  refine lv_goto (tgt := 18) hx hb dL_cell_9 (by decide) ?_
  exact W.iret (v := xs j) hx hb hr (fun t ht hW => ⟨⟨_, (), rfl, rfl, trivial⟩, hS.F ht⟩) (fun q hq => (hS.2.2 q hq).elim) dL_cell_18
theorem zc_blind {as : List Value} {b L : Nat} {xs : Nat → Int32} : FrameBlind (va_Pc as (fun U => va_X b L xs U U.heap)) :=
  fun a U g mk q => ⟨q.1, va_X.moved (u := U) (U := U.calling g mk a) (Vm.Alike.refl U.vm) q.2⟩
section ZC
variable {p : Program} {l : Launch} {e : Env} {R : Room} {s : State} {m : MethodId} {args : Array Value} {below : List Frame} {meth : Method} {c : Code} {H : Heap} {locs : List Loc} {cells slots : Nat} {Q : State → Prop} {cc : ByteArray} {pc : Nat} {ls : Array Slot} {rest st0 : List Value}
variable {D : va_G} {ty : List (ClassId × FieldType)} {A : Nat → Prop} {ws : va_W} {y : MethodName} {bytes : ByteArray} {maxL nL index : Nat} {ret : Option FieldType} {wsy Ts : List Cond} {rm : Room} {own : String}
theorem zc_cSi {b9 L9 j9 : Nat} {xs : Nat → Int32} (S : CallFix p m c cc nL s args Ts own) (hM : zc_M l y wsy rm b9 L9 xs j9) (cw : CallB R s args own index y bytes maxL ret wsy rm 0 0 2 ∧ (Cond.static y).before args s = true)
    (hX : va_X b9 L9 xs s s.heap) (hbl : b9 < s.heap.size) (hbA : ¬ A b9) (hP : va_P D vwCl ws H) (hS : va_S A s.heap H locs) (hsz : ls.size = nL) (hst : st0 = .int (nI j9) :: .ref b9 :: rest) (hW : (rest.map fun v => v.category).sum ≤ 8) (hdg : decode cc pc = .ok (.invokestatic index, 3)) (hcs : cells ≤ R.cells ∧ slots ≤ R.slots)
    (kk : ∀ (H1 : Heap) (locs1 : List Loc), va_P D vwCl ws H1 → va_S A s.heap H1 locs1 → H.size ≤ H1.size → W p l e R s m args below meth c H1 locs1 cells slots Q (F0 m (pc + 3) ls (.int (xs j9) :: rest))) : W p l e R s m args below meth c H locs cells slots Q (F0 m pc ls st0) := by
  refine va_calli (va_runS (As := [.ref b9, .int (nI j9)]) (rest := rest) S hM cw ⟨zc_blind, fun U hU hW => ⟨rfl, (hX.moved hW.alike).kept (by rw [hU]; exact hS.2.1 b9 hbl hbA)⟩⟩ rfl rfl hsz hst (lv_room hW) hdg hcs) hS (fun q _ h => h.elim) (fun q h => h.elim) (fun r u t H1 locs1 ht hvm hw hB hz1 hk1 hS1 => ?_)
  subst hw
  exact kk H1 locs1 (hP.kept (fun k q hk => hk1 q.1 (vx_lt hP hk) (fun h => h))) hS1 hz1
end ZC
set_option maxHeartbeats 8000000 in
set_option maxRecDepth 100000 in
theorem law_tail {p : Program} {l : Launch} {e : Env} {s : State} {m : MethodId} {args : Array Value} {below : List Frame} {meth : Method} {c : Code} {Q : State → Prop} {A : Nat → Prop} {b i : Nat} {H : Heap} {locs : List Loc} {ls : Array Slot} (hl0 : l.stackTraces = false) (S : CallFix p m c cL_law 16 s args wsL_law RL) (hA : ∀ q, s.heap.size ≤ q → A q) (hE : zx_E s) (hH : zx_H A s s.heap) (dC : Nat → ClassId) (dI : Nat → Nat → Nat) (a v : Nat → Nat) (cI cZ cD : ClassId) (hK : va_K (dC, dI) vwCl (zq_T cI cZ cD) s) {ki pl tu le : Nat → Int32} {ch ca : Nat → UInt64} {N : Nat} {tk th hu od : Nat → Int32} {M : Nat} {ti : Int32} {be : Nat → Int32} {clk : Int32} {lL : Nat → Int32} {lC lF : Nat → UInt64} {lW lM lB lH lR lD lG : Nat → Int32} (hi : i < 104) (hNM : (N ≤ i + 1 ∧ N ≤ 5 ∧ (i + 1 ≤ N ∨ 5 ≤ N) ∧ M ≤ i + 1 - 5 ∧ M ≤ 5 ∧ (i + 1 - 5 ≤ M ∨ 5 ≤ M))) (h : zw_S N M ki pl tu ch ca th be lL lC lF lM lG) (hP : va_P (dC, dI) vwCl (wLw a v cI cZ cD ki pl tu le ch ca (nI N) tk th hu od (nI M) ti be clk lL lC lF lW lM lB lH lR lD lG) H) (hD : va_D A (wLw a v cI cZ cD ki pl tu le ch ca (nI N) tk th hu od (nI M) ti be clk lL lC lF lW lM lB lH lR lD lG)) (hS : va_S A s.heap H locs) (hl : lv_has ls 16 [(12, .int (nI i)), (0, .ref b), (1, .ref (a 0)), (2, .ref (v 1)), (3, .ref (v 2)), (4, .ref (v 3)), (5, .ref (v 4)), (6, .ref (v 5)), (7, .ref (v 6)), (8, .ref (v 7)), (9, .ref (v 8)), (10, .ref (v 9)), (11, .ref (v 10))]) (hG : s.heap.size + 3 * i + 1 ≤ H.size)
    (ih : ∀ (H : Heap) (locs : List Loc) (ls : Array Slot), zw_I (dC, dI) A s a v cI cZ cD b (i + 1) H locs ls → W p l e room2 s m args below meth c H locs (40 + 7 * (i + 1)) (1180 + 42 * (i + 1)) Q (F0 m 68 ls [])) : W p l e room2 s m args below meth c H locs (40 + 7 * i + 2) (1180 + 42 * i + 12) Q (F0 m 145 ls [.int 1]) := by
  obtain ⟨hx, hb, hml, hown, hts⟩ := id S
  obtain ⟨hg0, hg1, hth, hm0, hbe, hpl, htu, hch, hca, hki, hlL, hlC, hlF, hp, hc⟩ := id h
  refine lv_if_eq (tgt := 184) hx hb dL_law_145 (by decide) (fun c => absurd c (by decide)) (fun _ => ?_)
  refine lv_aload_n hx hb dL_law_148 rfl (lv_at hl 2 rfl) ?_
  refine lv_aload hx hb dL_law_149 (lv_at hl 7 rfl) ?_
  refine lv_aload hx hb dL_law_151 (lv_at hl 8 rfl) ?_
  refine lv_aload hx hb dL_law_153 (lv_at hl 9 rfl) ?_
  refine lv_aload hx hb dL_law_155 (lv_at hl 10 rfl) ?_
  refine lv_aload hx hb dL_law_157 (lv_at hl 11 rfl) ?_
  refine lv_aload hx hb dL_law_159 (lv_at hl 12 rfl) ?_
  refine zg_cSi (As := [.ref (a 0), .ref (v 5), .ref (v 6), .ref (v 7), .ref (v 8), .ref (v 9), .ref (v 10)]) (rest := []) (wc := (wLw a v cI cZ cD ki pl tu le ch ca (nI N) tk th hu od (nI M) ti be clk lL lC lF lW lM lB lH lR lD lG)) (w1 := (wLw a v cI cZ cD ki pl tu le ch ca (nI N) tk th hu od (nI M) ti be clk lL lC lF lW lM lB lH lR lD lG)) (wr := []) (ws' := (wLw a v cI cZ cD ki pl tu le ch ca (nI N) tk th hu od (nI M) ti be clk lL lC lF lW lM lB lH lR lD lG)) ⟨hx, hb, hml, hown, hts⟩ (c_L_isRead l hl0 dC dI a cI cZ cD ki pl tu le ch ca N tk th hu od M ti be clk (by omega) (by omega) v lL lC lF lW lM lB lH lR lD lG hg0 hg1 hth hm0 hbe H.size) (va_cwS 7 hts gL_law_L_isRead rfl rfl rfl (by decide +kernel) ⟨Nat.le_of_ble_eq_true rfl, Nat.le_of_ble_eq_true rfl⟩) hK hP hD hS hA (hH.kept hS.2.1) hE [0, 1, 2, 3, 4, 5, 6, 7, 8, 9, 10, 11, 12, 13, 14, 15, 16, 17, 18, 19, 20, 21, 22, 23, 24] [] [0, 1, 2, 3, 4, 5, 6, 7, 8, 9, 10, 11, 12, 13, 14, 15, 16, 17, 18, 19, 20, 21, 22, 23, 24] rfl rfl rfl rfl (by decide) rfl rfl rfl hl.1 rfl (Nat.le_of_ble_eq_true rfl) dL_law_161 ⟨show 40 + 7 * i + 2 + 1 ≤ 800 by omega, show 1180 + 42 * i + 12 + 6 ≤ 6000 by omega⟩ (fun H locs hP hD hS hG2 => ?_)
  refine lv_if_eq (tgt := 184) hx hb dL_law_164 (by decide) (fun c => absurd c (by decide)) (fun _ => ?_)
  refine lv_aload_n hx hb dL_law_167 rfl (lv_at hl 2 rfl) ?_
  refine lv_aload_n hx hb dL_law_168 rfl (lv_at hl 3 rfl) ?_
  refine lv_aload_n hx hb dL_law_169 rfl (lv_at hl 4 rfl) ?_
  refine lv_aload hx hb dL_law_170 (lv_at hl 5 rfl) ?_
  refine lv_aload hx hb dL_law_172 (lv_at hl 6 rfl) ?_
  refine lv_aload hx hb dL_law_174 (lv_at hl 7 rfl) ?_
  refine lv_aload hx hb dL_law_176 (lv_at hl 12 rfl) ?_
  refine zg_cSi (As := [.ref (a 0), .ref (v 1), .ref (v 2), .ref (v 3), .ref (v 4), .ref (v 5), .ref (v 10)]) (rest := []) (wc := (wLw a v cI cZ cD ki pl tu le ch ca (nI N) tk th hu od (nI M) ti be clk lL lC lF lW lM lB lH lR lD lG)) (w1 := (wLw a v cI cZ cD ki pl tu le ch ca (nI N) tk th hu od (nI M) ti be clk lL lC lF lW lM lB lH lR lD lG)) (wr := []) (ws' := (wLw a v cI cZ cD ki pl tu le ch ca (nI N) tk th hu od (nI M) ti be clk lL lC lF lW lM lB lH lR lD lG)) ⟨hx, hb, hml, hown, hts⟩ (c_L_isRacked l hl0 dC dI a cI cZ cD ki pl tu le ch ca N tk th hu od M ti be clk (by omega) (by omega) v lL lC lF lW lM lB lH lR lD lG hg0 hg1 hth hm0 hbe hpl (fun i _ => htu i) hch hca hki hlL hlC hlF hp hc H.size) (va_cwS 7 hts gL_law_L_isRacked rfl rfl rfl (by decide +kernel) ⟨Nat.le_of_ble_eq_true rfl, Nat.le_of_ble_eq_true rfl⟩) hK hP hD hS hA (hH.kept hS.2.1) hE [0, 1, 2, 3, 4, 5, 6, 7, 8, 9, 10, 11, 12, 13, 14, 15, 16, 17, 18, 19, 20, 21, 22, 23, 24] [] [0, 1, 2, 3, 4, 5, 6, 7, 8, 9, 10, 11, 12, 13, 14, 15, 16, 17, 18, 19, 20, 21, 22, 23, 24] rfl rfl rfl rfl (by decide) rfl rfl rfl hl.1 rfl (Nat.le_of_ble_eq_true rfl) dL_law_178 ⟨show 40 + 7 * i + 2 + 1 + 4 ≤ 800 by omega, show 1180 + 42 * i + 12 + 6 + 24 ≤ 6000 by omega⟩ (fun H locs hP hD hS hG3 => ?_)
  refine lv_if_ne (tgt := 186) hx hb dL_law_181 (by decide) (fun _ => ?_) (fun c => absurd (show (1 : Int32) = 0 from c) (by decide))
  refine lv_iinc (k := 0) (v := nI (i + 1)) (lv' := [(12, .int (nI (i + 1))), (0, .ref b), (1, .ref (a 0)), (2, .ref (v 1)), (3, .ref (v 2)), (4, .ref (v 3)), (5, .ref (v 4)), (6, .ref (v 5)), (7, .ref (v 6)), (8, .ref (v 7)), (9, .ref (v 8)), (10, .ref (v 9)), (11, .ref (v 10))]) hx hb dL_law_186 hl rfl (nI_add _ 1) (by decide) rfl (fun ls hl => ?_)
  refine lv_goto (tgt := 68) hx hb dL_law_189 (by decide) ?_
  refine W.widen (k := 40 + 7 * (i + 1)) (n := 1180 + 42 * (i + 1)) (by omega) (by omega) ?_
  exact ih _ _ _ ⟨ki, pl, tu, le, ch, ca, N, tk, th, hu, od, M, ti, be, clk, lL, lC, lF, lW, lM, lB, lH, lR, lD, lG, hNM, h, hP, hD, hS, hl, by omega⟩
set_option maxHeartbeats 8000000 in
set_option maxRecDepth 100000 in
theorem law_lamp {p : Program} {l : Launch} {e : Env} {s : State} {m : MethodId} {args : Array Value} {below : List Frame} {meth : Method} {c : Code} {Q : State → Prop} {A : Nat → Prop} {b i : Nat} {H : Heap} {locs : List Loc} {ls : Array Slot} (hl0 : l.stackTraces = false) (S : CallFix p m c cL_law 16 s args wsL_law RL) (hA : ∀ q, s.heap.size ≤ q → A q) (hE : zx_E s) (hH : zx_H A s s.heap) (dC : Nat → ClassId) (dI : Nat → Nat → Nat) (a v : Nat → Nat) (cI cZ cD : ClassId) (hK : va_K (dC, dI) vwCl (zq_T cI cZ cD) s) {ki pl tu le : Nat → Int32} {ch ca : Nat → UInt64} {N : Nat} {tk th hu od : Nat → Int32} {M : Nat} {ti : Int32} {be : Nat → Int32} {clk : Int32} {lL : Nat → Int32} {lC lF : Nat → UInt64} {lW lM lB lH lR lD lG : Nat → Int32} (hi : i < 104) (hNM : N = i) (hN5 : N < 5) (hM0 : M = 0) (h : zw_S N M ki pl tu ch ca th be lL lC lF lM lG) (hP : va_P (dC, dI) vwCl (wLw a v cI cZ cD ki pl tu le ch ca (nI N) tk th hu od (nI M) ti be clk lL lC lF lW lM lB lH lR lD lG) H) (hD : va_D A (wLw a v cI cZ cD ki pl tu le ch ca (nI N) tk th hu od (nI M) ti be clk lL lC lF lW lM lB lH lR lD lG)) (hS : va_S A s.heap H locs) (hl : lv_has ls 16 [(14, .int 10), (13, .int 26), (12, .int (nI i)), (0, .ref b), (1, .ref (a 0)), (2, .ref (v 1)), (3, .ref (v 2)), (4, .ref (v 3)), (5, .ref (v 4)), (6, .ref (v 5)), (7, .ref (v 6)), (8, .ref (v 7)), (9, .ref (v 8)), (10, .ref (v 9)), (11, .ref (v 10))]) (hG : s.heap.size + 3 * i ≤ H.size)
    (ih : ∀ (H : Heap) (locs : List Loc) (ls : Array Slot), zw_I (dC, dI) A s a v cI cZ cD b (i + 1) H locs ls → W p l e room2 s m args below meth c H locs (40 + 7 * (i + 1)) (1180 + 42 * (i + 1)) Q (F0 m 68 ls [])) : W p l e room2 s m args below meth c H locs (40 + 7 * i) (1180 + 42 * i) Q (F0 m 122 ls [.int 0, .ref (a 0)]) := by
  obtain ⟨hx, hb, hml, hown, hts⟩ := id S
  obtain ⟨hg0, hg1, hth, hm0, hbe, hpl, htu, hch, hca, hki, hlL, hlC, hlF, hp, hc⟩ := id h
  refine lv_iload hx hb dL_law_122 (lv_at hl 0 rfl) ?_
  refine lv_aload_n hx hb dL_law_124 rfl (lv_at hl 5 rfl) ?_
  refine lv_aload_n hx hb dL_law_125 rfl (lv_at hl 6 rfl) ?_
  refine lv_aload hx hb dL_law_126 (lv_at hl 7 rfl) ?_
  refine lv_aload hx hb dL_law_128 (lv_at hl 8 rfl) ?_
  refine lv_aload hx hb dL_law_130 (lv_at hl 9 rfl) ?_
  refine lv_aload hx hb dL_law_132 (lv_at hl 10 rfl) ?_
  refine lv_aload hx hb dL_law_134 (lv_at hl 11 rfl) ?_
  refine lv_aload hx hb dL_law_136 (lv_at hl 12 rfl) ?_
  refine lv_aload hx hb dL_law_138 (lv_at hl 13 rfl) ?_
  refine lv_aload hx hb dL_law_140 (lv_at hl 14 rfl) ?_
  refine zg_cSi (As := [.ref (a 0), .int 0, .int 10, .ref (v 1), .ref (v 2), .ref (v 3), .ref (v 4), .ref (v 5), .ref (v 6), .ref (v 7), .ref (v 8), .ref (v 9), .ref (v 10)]) (rest := []) (wc := (wLw a v cI cZ cD ki pl tu le ch ca (nI N) tk th hu od (nI M) ti be clk lL lC lF lW lM lB lH lR lD lG)) (w1 := (wLw a v cI cZ cD (upd ki N 2) (upd pl N 0) tu le (vf_upd ch N (la_new 2)) (vf_upd ca N (la_new 2)) (nI (N + 1)) tk th hu od (nI (M)) ti be clk (upd lL N 2) (vf_upd lC N 4626322717216342016) (vf_upd lF N 4626322717216342016) lW lM lB lH lR lD (upd lG 0 (nI (N + 1))))) (wr := []) (ws' := (wLw a v cI cZ cD (upd ki N 2) (upd pl N 0) tu le (vf_upd ch N (la_new 2)) (vf_upd ca N (la_new 2)) (nI (N + 1)) tk th hu od (nI (M)) ti be clk (upd lL N 2) (vf_upd lC N 4626322717216342016) (vf_upd lF N 4626322717216342016) lW lM lB lH lR lD (upd lG 0 (nI (N + 1))))) ⟨hx, hb, hml, hown, hts⟩ (c_L_keeps_lamp l hl0 dC dI a cI cZ cD ki pl tu le ch ca N tk th hu od M ti be clk (by omega) (by omega) v lL lC lF lW lM lB lH lR lD lG hg0 hg1 (by omega) H.size) (va_cwS 13 hts gL_law_L_keeps rfl rfl rfl (by decide +kernel) ⟨Nat.le_of_ble_eq_true rfl, Nat.le_of_ble_eq_true rfl⟩) hK hP hD hS hA (hH.kept hS.2.1) hE [0, 1, 2, 3, 4, 5, 6, 7, 8, 9, 10, 11, 12, 13, 14, 15, 16, 17, 18, 19, 20, 21, 22, 23, 24] [] [0, 1, 2, 3, 4, 5, 6, 7, 8, 9, 10, 11, 12, 13, 14, 15, 16, 17, 18, 19, 20, 21, 22, 23, 24] rfl rfl rfl rfl (by decide) rfl rfl rfl hl.1 rfl (Nat.le_of_ble_eq_true rfl) dL_law_142 ⟨show 40 + 7 * i + 1 ≤ 800 by omega, show 1180 + 42 * i + 6 ≤ 6000 by omega⟩ (fun H locs hP hD hS hG1 => ?_)
  have hl : lv_has ls 16 [(12, .int (nI i)), (0, .ref b), (1, .ref (a 0)), (2, .ref (v 1)), (3, .ref (v 2)), (4, .ref (v 3)), (5, .ref (v 4)), (6, .ref (v 5)), (7, .ref (v 6)), (8, .ref (v 7)), (9, .ref (v 8)), (10, .ref (v 9)), (11, .ref (v 10))] := lv_sub hl [2, 3, 4, 5, 6, 7, 8, 9, 10, 11, 12, 13, 14] rfl
  refine W.widen (k := 40 + 7 * i + 2) (n := 1180 + 42 * i + 12) (by omega) (by omega) ?_
  exact law_tail hl0 S hA hE hH dC dI a v cI cZ cD hK hi (by omega) h.lamp hP hD hS hl (by omega) ih
set_option maxHeartbeats 8000000 in
set_option maxRecDepth 100000 in
theorem law_miner {p : Program} {l : Launch} {e : Env} {s : State} {m : MethodId} {args : Array Value} {below : List Frame} {meth : Method} {c : Code} {Q : State → Prop} {A : Nat → Prop} {b i : Nat} {H : Heap} {locs : List Loc} {ls : Array Slot} (hl0 : l.stackTraces = false) (S : CallFix p m c cL_law 16 s args wsL_law RL) (hA : ∀ q, s.heap.size ≤ q → A q) (hE : zx_E s) (hH : zx_H A s s.heap) (dC : Nat → ClassId) (dI : Nat → Nat → Nat) (a v : Nat → Nat) (cI cZ cD : ClassId) (hK : va_K (dC, dI) vwCl (zq_T cI cZ cD) s) {ki pl tu le : Nat → Int32} {ch ca : Nat → UInt64} {N : Nat} {tk th hu od : Nat → Int32} {M : Nat} {ti : Int32} {be : Nat → Int32} {clk : Int32} {lL : Nat → Int32} {lC lF : Nat → UInt64} {lW lM lB lH lR lD lG : Nat → Int32} (hi : i < 104) (hNM : 5 ≤ i ∧ M = i - 5) (hN5 : N = 5) (hM5 : M < 5) (h : zw_S N M ki pl tu ch ca th be lL lC lF lM lG) (hP : va_P (dC, dI) vwCl (wLw a v cI cZ cD ki pl tu le ch ca (nI N) tk th hu od (nI M) ti be clk lL lC lF lW lM lB lH lR lD lG) H) (hD : va_D A (wLw a v cI cZ cD ki pl tu le ch ca (nI N) tk th hu od (nI M) ti be clk lL lC lF lW lM lB lH lR lD lG)) (hS : va_S A s.heap H locs) (hl : lv_has ls 16 [(14, .int 10), (13, .int 26), (12, .int (nI i)), (0, .ref b), (1, .ref (a 0)), (2, .ref (v 1)), (3, .ref (v 2)), (4, .ref (v 3)), (5, .ref (v 4)), (6, .ref (v 5)), (7, .ref (v 6)), (8, .ref (v 7)), (9, .ref (v 8)), (10, .ref (v 9)), (11, .ref (v 10))]) (hG : s.heap.size + 3 * i ≤ H.size)
    (ih : ∀ (H : Heap) (locs : List Loc) (ls : Array Slot), zw_I (dC, dI) A s a v cI cZ cD b (i + 1) H locs ls → W p l e room2 s m args below meth c H locs (40 + 7 * (i + 1)) (1180 + 42 * (i + 1)) Q (F0 m 68 ls [])) : W p l e room2 s m args below meth c H locs (40 + 7 * i) (1180 + 42 * i) Q (F0 m 122 ls [.int 4, .ref (a 0)]) := by
  obtain ⟨hx, hb, hml, hown, hts⟩ := id S
  obtain ⟨hg0, hg1, hth, hm0, hbe, hpl, htu, hch, hca, hki, hlL, hlC, hlF, hp, hc⟩ := id h
  refine lv_iload hx hb dL_law_122 (lv_at hl 0 rfl) ?_
  refine lv_aload_n hx hb dL_law_124 rfl (lv_at hl 5 rfl) ?_
  refine lv_aload_n hx hb dL_law_125 rfl (lv_at hl 6 rfl) ?_
  refine lv_aload hx hb dL_law_126 (lv_at hl 7 rfl) ?_
  refine lv_aload hx hb dL_law_128 (lv_at hl 8 rfl) ?_
  refine lv_aload hx hb dL_law_130 (lv_at hl 9 rfl) ?_
  refine lv_aload hx hb dL_law_132 (lv_at hl 10 rfl) ?_
  refine lv_aload hx hb dL_law_134 (lv_at hl 11 rfl) ?_
  refine lv_aload hx hb dL_law_136 (lv_at hl 12 rfl) ?_
  refine lv_aload hx hb dL_law_138 (lv_at hl 13 rfl) ?_
  refine lv_aload hx hb dL_law_140 (lv_at hl 14 rfl) ?_
  refine zg_cSi (As := [.ref (a 0), .int 4, .int 10, .ref (v 1), .ref (v 2), .ref (v 3), .ref (v 4), .ref (v 5), .ref (v 6), .ref (v 7), .ref (v 8), .ref (v 9), .ref (v 10)]) (rest := []) (wc := (wLw a v cI cZ cD ki pl tu le ch ca (nI N) tk th hu od (nI M) ti be clk lL lC lF lW lM lB lH lR lD lG)) (w1 := (wLw a v cI cZ cD ki pl tu le ch ca (nI (N)) (upd tk M 2) (upd th M (-1)) hu od (nI (M + 1)) ti be clk lL lC lF (upd lW M 2) (upd lM M 0) lB lH lR lD (upd lG 1 (nI (M + 1))))) (wr := []) (ws' := (wLw a v cI cZ cD ki pl tu le ch ca (nI (N)) (upd tk M 2) (upd th M (-1)) hu od (nI (M + 1)) ti be clk lL lC lF (upd lW M 2) (upd lM M 0) lB lH lR lD (upd lG 1 (nI (M + 1))))) ⟨hx, hb, hml, hown, hts⟩ (c_L_keeps_miner l hl0 dC dI a cI cZ cD ki pl tu le ch ca N tk th hu od M ti be clk (by omega) (by omega) v lL lC lF lW lM lB lH lR lD lG hg0 hg1 (by omega) H.size) (va_cwS 13 hts gL_law_L_keeps rfl rfl rfl (by decide +kernel) ⟨Nat.le_of_ble_eq_true rfl, Nat.le_of_ble_eq_true rfl⟩) hK hP hD hS hA (hH.kept hS.2.1) hE [0, 1, 2, 3, 4, 5, 6, 7, 8, 9, 10, 11, 12, 13, 14, 15, 16, 17, 18, 19, 20, 21, 22, 23, 24] [] [0, 1, 2, 3, 4, 5, 6, 7, 8, 9, 10, 11, 12, 13, 14, 15, 16, 17, 18, 19, 20, 21, 22, 23, 24] rfl rfl rfl rfl (by decide) rfl rfl rfl hl.1 rfl (Nat.le_of_ble_eq_true rfl) dL_law_142 ⟨show 40 + 7 * i + 1 ≤ 800 by omega, show 1180 + 42 * i + 6 ≤ 6000 by omega⟩ (fun H locs hP hD hS hG1 => ?_)
  have hl : lv_has ls 16 [(12, .int (nI i)), (0, .ref b), (1, .ref (a 0)), (2, .ref (v 1)), (3, .ref (v 2)), (4, .ref (v 3)), (5, .ref (v 4)), (6, .ref (v 5)), (7, .ref (v 6)), (8, .ref (v 7)), (9, .ref (v 8)), (10, .ref (v 9)), (11, .ref (v 10))] := lv_sub hl [2, 3, 4, 5, 6, 7, 8, 9, 10, 11, 12, 13, 14] rfl
  refine W.widen (k := 40 + 7 * i + 2) (n := 1180 + 42 * i + 12) (by omega) (by omega) ?_
  exact law_tail hl0 S hA hE hH dC dI a v cI cZ cD hK hi (by omega) h.miner hP hD hS hl (by omega) ih
set_option maxHeartbeats 8000000 in
set_option maxRecDepth 100000 in
theorem law_test {p : Program} {l : Launch} {e : Env} {s : State} {m : MethodId} {args : Array Value} {below : List Frame} {meth : Method} {c : Code} {Q : State → Prop} {A : Nat → Prop} {b i : Nat} {H : Heap} {locs : List Loc} {ls : Array Slot} (hl0 : l.stackTraces = false) (S : CallFix p m c cL_law 16 s args wsL_law RL) (hA : ∀ q, s.heap.size ≤ q → A q) (hE : zx_E s) (hH : zx_H A s s.heap) (dC : Nat → ClassId) (dI : Nat → Nat → Nat) (a v : Nat → Nat) (cI cZ cD : ClassId) (hK : va_K (dC, dI) vwCl (zq_T cI cZ cD) s) {ki pl tu le : Nat → Int32} {ch ca : Nat → UInt64} {N : Nat} {tk th hu od : Nat → Int32} {M : Nat} {ti : Int32} {be : Nat → Int32} {clk : Int32} {lL : Nat → Int32} {lC lF : Nat → UInt64} {lW lM lB lH lR lD lG : Nat → Int32} (hi : i < 104) (hNM : 10 ≤ i) (hN5 : N = 5) (hM5 : M = 5) (h : zw_S N M ki pl tu ch ca th be lL lC lF lM lG) (hP : va_P (dC, dI) vwCl (wLw a v cI cZ cD ki pl tu le ch ca (nI N) tk th hu od (nI M) ti be clk lL lC lF lW lM lB lH lR lD lG) H) (hD : va_D A (wLw a v cI cZ cD ki pl tu le ch ca (nI N) tk th hu od (nI M) ti be clk lL lC lF lW lM lB lH lR lD lG)) (hS : va_S A s.heap H locs) (hl : lv_has ls 16 [(14, .int 10), (13, .int 26), (12, .int (nI i)), (0, .ref b), (1, .ref (a 0)), (2, .ref (v 1)), (3, .ref (v 2)), (4, .ref (v 3)), (5, .ref (v 4)), (6, .ref (v 5)), (7, .ref (v 6)), (8, .ref (v 7)), (9, .ref (v 8)), (10, .ref (v 9)), (11, .ref (v 10))]) (hG : s.heap.size + 3 * i ≤ H.size)
    (ih : ∀ (H : Heap) (locs : List Loc) (ls : Array Slot), zw_I (dC, dI) A s a v cI cZ cD b (i + 1) H locs ls → W p l e room2 s m args below meth c H locs (40 + 7 * (i + 1)) (1180 + 42 * (i + 1)) Q (F0 m 68 ls [])) : W p l e room2 s m args below meth c H locs (40 + 7 * i) (1180 + 42 * i) Q (F0 m 122 ls [.int 26, .ref (a 0)]) := by
  obtain ⟨hx, hb, hml, hown, hts⟩ := id S
  obtain ⟨hg0, hg1, hth, hm0, hbe, hpl, htu, hch, hca, hki, hlL, hlC, hlF, hp, hc⟩ := id h
  refine lv_iload hx hb dL_law_122 (lv_at hl 0 rfl) ?_
  refine lv_aload_n hx hb dL_law_124 rfl (lv_at hl 5 rfl) ?_
  refine lv_aload_n hx hb dL_law_125 rfl (lv_at hl 6 rfl) ?_
  refine lv_aload hx hb dL_law_126 (lv_at hl 7 rfl) ?_
  refine lv_aload hx hb dL_law_128 (lv_at hl 8 rfl) ?_
  refine lv_aload hx hb dL_law_130 (lv_at hl 9 rfl) ?_
  refine lv_aload hx hb dL_law_132 (lv_at hl 10 rfl) ?_
  refine lv_aload hx hb dL_law_134 (lv_at hl 11 rfl) ?_
  refine lv_aload hx hb dL_law_136 (lv_at hl 12 rfl) ?_
  refine lv_aload hx hb dL_law_138 (lv_at hl 13 rfl) ?_
  refine lv_aload hx hb dL_law_140 (lv_at hl 14 rfl) ?_
  refine zg_cSi (As := [.ref (a 0), .int 26, .int 10, .ref (v 1), .ref (v 2), .ref (v 3), .ref (v 4), .ref (v 5), .ref (v 6), .ref (v 7), .ref (v 8), .ref (v 9), .ref (v 10)]) (rest := []) (wc := (wLw a v cI cZ cD ki pl tu le ch ca (nI N) tk th hu od (nI M) ti be clk lL lC lF lW lM lB lH lR lD lG)) (w1 := (wLw a v cI cZ cD ki pl tu le ch ca (nI N) tk th hu od (nI M) ti be clk lL lC lF lW lM lB lH lR lD lG)) (wr := []) (ws' := (wLw a v cI cZ cD ki pl tu le ch ca (nI N) tk th hu od (nI M) ti be clk lL lC lF lW lM lB lH lR lD lG)) ⟨hx, hb, hml, hown, hts⟩ (c_L_keeps_test l hl0 dC dI a cI cZ cD ki pl tu le ch ca N tk th hu od M ti be clk (by omega) (by omega) v lL lC lF lW lM lB lH lR lD lG hg0 hg1 hN5 H.size) (va_cwS 13 hts gL_law_L_keeps rfl rfl rfl (by decide +kernel) ⟨Nat.le_of_ble_eq_true rfl, Nat.le_of_ble_eq_true rfl⟩) hK hP hD hS hA (hH.kept hS.2.1) hE [0, 1, 2, 3, 4, 5, 6, 7, 8, 9, 10, 11, 12, 13, 14, 15, 16, 17, 18, 19, 20, 21, 22, 23, 24] [] [0, 1, 2, 3, 4, 5, 6, 7, 8, 9, 10, 11, 12, 13, 14, 15, 16, 17, 18, 19, 20, 21, 22, 23, 24] rfl rfl rfl rfl (by decide) rfl rfl rfl hl.1 rfl (Nat.le_of_ble_eq_true rfl) dL_law_142 ⟨show 40 + 7 * i + 2 ≤ 800 by omega, show 1180 + 42 * i + 12 ≤ 6000 by omega⟩ (fun H locs hP hD hS hG1 => ?_)
  have hl : lv_has ls 16 [(12, .int (nI i)), (0, .ref b), (1, .ref (a 0)), (2, .ref (v 1)), (3, .ref (v 2)), (4, .ref (v 3)), (5, .ref (v 4)), (6, .ref (v 5)), (7, .ref (v 6)), (8, .ref (v 7)), (9, .ref (v 8)), (10, .ref (v 9)), (11, .ref (v 10))] := lv_sub hl [2, 3, 4, 5, 6, 7, 8, 9, 10, 11, 12, 13, 14] rfl
  exact law_tail hl0 S hA hE hH dC dI a v cI cZ cD hK hi (by omega) h hP hD hS hl (by omega) ih
set_option maxHeartbeats 8000000 in
set_option maxRecDepth 100000 in
theorem law_turn {p : Program} {l : Launch} {e : Env} {s : State} {m : MethodId} {args : Array Value} {below : List Frame} {meth : Method} {c : Code} {Q : State → Prop} {A : Nat → Prop} {b i : Nat} {H : Heap} {locs : List Loc} {ls : Array Slot} {L : Nat} {xs : Nat → Int32} (hl0 : l.stackTraces = false) (S : CallFix p m c cL_law 16 s args wsL_law RL) (hA : ∀ q, s.heap.size ≤ q → A q) (hE : zx_E s) (hH : zx_H A s s.heap) (dC : Nat → ClassId) (dI : Nat → Nat → Nat) (a v : Nat → Nat) (cI cZ cD : ClassId) (hK : va_K (dC, dI) vwCl (zq_T cI cZ cD) s) (hX : va_X b L xs s s.heap) (hbl : b < s.heap.size) (hbA : ¬ A b) (hL : L ≤ 260) (h208 : 208 ≤ L) (hxs : ∀ j, j < 104 → xs (2 * j) = 26 ∧ xs (2 * j + 1) = 10) (hi : i < 104) (h0 : zw_I (dC, dI) A s a v cI cZ cD b i H locs ls)
    (ih : ∀ (H : Heap) (locs : List Loc) (ls : Array Slot), zw_I (dC, dI) A s a v cI cZ cD b (i + 1) H locs ls → W p l e room2 s m args below meth c H locs (40 + 7 * (i + 1)) (1180 + 42 * (i + 1)) Q (F0 m 68 ls [])) : W p l e room2 s m args below meth c H locs (40 + 7 * i) (1180 + 42 * i) Q (F0 m 68 ls []) := by
  obtain ⟨ki, pl, tu, le, ch, ca, N, tk, th, hu, od, M, ti, be, clk, lL, lC, lF, lW, lM, lB, lH, lR, lD, lG, hNM, h, hP, hD, hS, hl, hG⟩ := h0
  obtain ⟨hx, hb, hml, hown, hts⟩ := id S
  obtain ⟨hx1, hx2⟩ := hxs i hi
  refine lv_iload hx hb dL_law_68 (lv_at hl 0 rfl) ?_
  refine lv_sipush (v := 160) hx hb dL_law_70 (by decide) ?_
  refine lv_icmp_ge (tgt := 192) hx hb dL_law_73 (by decide) (fun c9 => absurd ((nI_leI (a := 160) (b := i) (by omega) (by omega)).mp c9) (by omega)) (fun _ => ?_)
  refine lv_aload_n hx hb dL_law_76 rfl (lv_at hl 1 rfl) ?_
  refine lv_iconst (v := 2) hx hb dL_law_77 (by decide) ?_
  refine lv_iload hx hb dL_law_78 (lv_at hl 0 rfl) ?_
  refine t_imul hx hb dL_law_80 (v := nI (2 * i)) (pk_mul 2 _) ?_
  refine zc_cSi (rest := []) ⟨hx, hb, hml, hown, hts⟩ (c_L_cell l b L xs hL (2 * i) (by omega)) (va_cwS 2 hts gL_law_L_cell rfl rfl rfl (by decide +kernel) ⟨Nat.le_of_ble_eq_true rfl, Nat.le_of_ble_eq_true rfl⟩) hX hbl hbA hP hS hl.1 rfl (Nat.le_of_ble_eq_true rfl) dL_law_81 ⟨show 40 + 7 * i ≤ 800 by omega, show 1180 + 42 * i ≤ 6000 by omega⟩ (fun H locs hP hS hz76 => ?_)
  rw [hx1]
  refine lv_istore (lv' := [(13, .int 26), (12, .int (nI i)), (0, .ref b), (1, .ref (a 0)), (2, .ref (v 1)), (3, .ref (v 2)), (4, .ref (v 3)), (5, .ref (v 4)), (6, .ref (v 5)), (7, .ref (v 6)), (8, .ref (v 7)), (9, .ref (v 8)), (10, .ref (v 9)), (11, .ref (v 10))]) hx hb dL_law_84 hl (by decide) rfl (fun ls hl => ?_)
  refine lv_aload_n hx hb dL_law_86 rfl (lv_at hl 2 rfl) ?_
  refine lv_iconst (v := 2) hx hb dL_law_87 (by decide) ?_
  refine lv_iload hx hb dL_law_88 (lv_at hl 1 rfl) ?_
  refine t_imul hx hb dL_law_90 (v := nI (2 * i)) (pk_mul 2 _) ?_
  refine lv_iconst (v := 1) hx hb dL_law_91 (by decide) ?_
  refine t_iadd hx hb dL_law_92 (v := nI (2 * i + 1)) (nI_1 _) ?_
  refine zc_cSi (rest := []) ⟨hx, hb, hml, hown, hts⟩ (c_L_cell l b L xs hL (2 * i + 1) (by omega)) (va_cwS 2 hts gL_law_L_cell rfl rfl rfl (by decide +kernel) ⟨Nat.le_of_ble_eq_true rfl, Nat.le_of_ble_eq_true rfl⟩) hX hbl hbA hP hS hl.1 rfl (Nat.le_of_ble_eq_true rfl) dL_law_93 ⟨show 40 + 7 * i ≤ 800 by omega, show 1180 + 42 * i ≤ 6000 by omega⟩ (fun H locs hP hS hz86 => ?_)
  rw [hx2]
  refine lv_istore (lv' := [(14, .int 10), (13, .int 26), (12, .int (nI i)), (0, .ref b), (1, .ref (a 0)), (2, .ref (v 1)), (3, .ref (v 2)), (4, .ref (v 3)), (5, .ref (v 4)), (6, .ref (v 5)), (7, .ref (v 6)), (8, .ref (v 7)), (9, .ref (v 8)), (10, .ref (v 9)), (11, .ref (v 10))]) hx hb dL_law_96 hl (by decide) rfl (fun ls hl => ?_)
  refine lv_aload_n hx hb dL_law_98 rfl (lv_at hl 4 rfl) ?_
  refine lv_iload hx hb dL_law_99 (lv_at hl 2 rfl) ?_
  refine lv_iconst (v := 5) hx hb dL_law_101 (by decide) ?_
  refine lv_icmp_ge (tgt := 109) hx hb dL_law_102 (by decide) (fun c9 => ?_) (fun c9 => ?_)
  · have d9 := (nI_leI (a := 5) (b := i) (by omega) (by omega)).mp c9
    refine lv_iload hx hb dL_law_109 (lv_at hl 2 rfl) ?_
    refine lv_bipush (v := 10) hx hb dL_law_111 (by decide) ?_
    refine lv_icmp_ge (tgt := 120) hx hb dL_law_113 (by decide) (fun c8 => ?_) (fun c8 => ?_)
    · have d8 := (nI_leI (a := 10) (b := i) (by omega) (by omega)).mp c8
      refine lv_iload hx hb dL_law_120 (lv_at hl 1 rfl) ?_
      exact law_test hl0 S hA hE hH dC dI a v cI cZ cD hK hi (by omega) (by omega) (by omega) h hP hD hS hl (by omega) ih
    · have d8 := Nat.not_le.mp (fun h => c8 ((nI_leI (a := 10) (b := i) (by omega) (by omega)).mpr h))
      refine lv_iconst (v := 4) hx hb dL_law_116 (by decide) ?_
      refine lv_goto (tgt := 122) hx hb dL_law_117 (by decide) ?_
      exact law_miner hl0 S hA hE hH dC dI a v cI cZ cD hK hi (by omega) (by omega) (by omega) h hP hD hS hl (by omega) ih
  · have d9 := Nat.not_le.mp (fun h => c9 ((nI_leI (a := 5) (b := i) (by omega) (by omega)).mpr h))
    refine lv_iconst (v := 0) hx hb dL_law_105 (by decide) ?_
    refine lv_goto (tgt := 122) hx hb dL_law_106 (by decide) ?_
    exact law_lamp hl0 S hA hE hH dC dI a v cI cZ cD hK hi (by omega) (by omega) (by omega) h hP hD hS hl (by omega) ih
theorem law_loop {p : Program} {l : Launch} {e : Env} {s : State} {m : MethodId} {args : Array Value} {below : List Frame} {meth : Method} {c : Code} {Q : State → Prop} {A : Nat → Prop} {b : Nat} {L : Nat} {xs : Nat → Int32} (hl0 : l.stackTraces = false) (S : CallFix p m c cL_law 16 s args wsL_law RL) (hA : ∀ q, s.heap.size ≤ q → A q) (hE : zx_E s) (hH : zx_H A s s.heap) (dC : Nat → ClassId) (dI : Nat → Nat → Nat) (a v : Nat → Nat) (cI cZ cD : ClassId) (hK : va_K (dC, dI) vwCl (zq_T cI cZ cD) s) (hX : va_X b L xs s s.heap) (hbl : b < s.heap.size) (hbA : ¬ A b) (hL : L ≤ 260) (h208 : 208 ≤ L) (hxs : ∀ j, j < 104 → xs (2 * j) = 26 ∧ xs (2 * j + 1) = 10)
    (hend : ∀ (H : Heap) (locs : List Loc) (ls : Array Slot), s.heap.size + 312 ≤ H.size → W p l e room2 s m args below meth c H locs 768 5548 Q (F0 m 68 ls [])) :
    ∀ (n i : Nat), i + n = 104 → ∀ (H : Heap) (locs : List Loc) (ls : Array Slot), zw_I (dC, dI) A s a v cI cZ cD b i H locs ls → W p l e room2 s m args below meth c H locs (40 + 7 * i) (1180 + 42 * i) Q (F0 m 68 ls []) := by
  intro n
  induction n with
  | zero =>
    intro i hi H locs ls h0
    have e9 : i = 104 := by omega
    subst e9
    obtain ⟨ki, pl, tu, le, ch, ca, N, tk, th, hu, od, M, ti, be, clk, lL, lC, lF, lW, lM, lB, lH, lR, lD, lG, hNM, h, hP, hD, hS, hl, hG⟩ := h0
    exact hend H locs ls (by omega)
  | succ n ihn =>
    intro i hi H locs ls h0
    exact law_turn hl0 S hA hE hH dC dI a v cI cZ cD hK hX hbl hbA hL h208 hxs (by omega) h0 (ihn (i + 1) (by omega))
