/-! from the entry to the loop -/
theorem lx_str {args : Array Value} {s : State} {k : Nat} {tx : String} (h1 : (Cond.stringRef RX3 k tx).before args s = true) (h2 : (Cond.exactly (.string RX3 k) "java/lang/String").before args s = true) : zx_R k tx s := by
  obtain ⟨a, c, cell, k9, q1, -⟩ := Cond.exactly_spec (args := args) (first := s) (o := none) (s := s) (idx := []) (t := .string RX3 k) (cls := "java/lang/String") h2
  exact ⟨a, vk_R.of h1 q1⟩
set_option maxRecDepth 20000 in
theorem lx_E {s : State} {b : Nat} (ht : ∀ w ∈ lw_tbl, w.before #[Value.ref b] s = true) (hgv : (Jvm.Cond.and given_1 narrow_1).before #[Value.ref b] s = true) : zx_E s := by
  have hn := flat_of_before _ hgv
  refine ⟨⟨⟨⟨va_Nw.of rfl (ht (.castable zx_A zx_A) (by decide +kernel)), va_Nw.of rfl (ht (.castable zx_S zx_S) (by decide +kernel)), va_Nw.of rfl (ht (.castable zx_I zx_I) (by decide +kernel))⟩, va_Nc.of (hn (.not (.castable zx_S zx_A)) (by decide +kernel)), va_Nc.of (hn (.not (.castable zx_S zx_I)) (by decide +kernel))⟩, va_Nw.of rfl (ht zx_d1 (by decide +kernel)), va_Nw.of rfl (ht zx_d2 (by decide +kernel)), va_Nw.of rfl (ht zx_d3 (by decide +kernel))⟩, ?_, ?_, ?_, ?_, ?_, ?_, ?_, ?_, ?_, ?_, ?_⟩
  · exact lx_str (ht (.stringRef RX3 147 "there is no such class") (by decide +kernel)) (hn (.exactly (.string RX3 147) "java/lang/String") (by decide +kernel))
  · exact lx_str (ht (.stringRef RX3 44 "there are 40 lamps") (by decide +kernel)) (hn (.exactly (.string RX3 44) "java/lang/String") (by decide +kernel))
  · exact lx_str (ht (.stringRef RX3 54 "there are 30 miners") (by decide +kernel)) (hn (.exactly (.string RX3 54) "java/lang/String") (by decide +kernel))
  · exact lx_str (ht (.stringRef RX3 151 "there is no such miner") (by decide +kernel)) (hn (.exactly (.string RX3 151) "java/lang/String") (by decide +kernel))
  · exact lx_str (ht (.stringRef RX3 65 "the tally is on the board") (by decide +kernel)) (hn (.exactly (.string RX3 65) "java/lang/String") (by decide +kernel))
  · exact lx_str (ht (.stringRef RX3 73 "there is no lamp") (by decide +kernel)) (hn (.exactly (.string RX3 73) "java/lang/String") (by decide +kernel))
  · exact lx_str (ht (.stringRef RX3 83 "the tally is not on the board") (by decide +kernel)) (hn (.exactly (.string RX3 83) "java/lang/String") (by decide +kernel))
  · exact lx_str (ht (.stringRef RX3 154 "there is no such lamp") (by decide +kernel)) (hn (.exactly (.string RX3 154) "java/lang/String") (by decide +kernel))
  · exact lx_str (ht (.stringRef RX3 103 "the lamp is not on the rack") (by decide +kernel)) (hn (.exactly (.string RX3 103) "java/lang/String") (by decide +kernel))
  · exact lx_str (ht (.stringRef RX3 108 "the lamp is not set aside") (by decide +kernel)) (hn (.exactly (.string RX3 108) "java/lang/String") (by decide +kernel))
  · exact lx_str (ht (.stringRef RX3 115 "hours must be 1 to 100") (by decide +kernel)) (hn (.exactly (.string RX3 115) "java/lang/String") (by decide +kernel))
set_option maxRecDepth 20000 in
theorem lx_H {s : State} {b : Nat} (ht : ∀ w ∈ lw_tbl, w.before #[Value.ref b] s = true) (hgv : (Jvm.Cond.and given_1 narrow_1).before #[Value.ref b] s = true) : zx_H (fun q : Nat => s.heap.size ≤ q) s s.heap := by
  have hn := flat_of_before _ hgv
  exact ⟨vx_Zqof (ht (.laysStatic Bundle.tN "UNASSIGNED_STACK" Bundle.steD) (by decide +kernel)) (ht (.initialized Bundle.tN) (by decide +kernel)) (hn (.isRef (.static Bundle.tN "UNASSIGNED_STACK" Bundle.steD)) (by decide +kernel)) (fun a h => Nat.not_le.mpr h),
    vx_Zqof (ht (.laysStatic Bundle.tN "SUPPRESSED_SENTINEL" Bundle.listD) (by decide +kernel)) (ht (.initialized Bundle.tN) (by decide +kernel)) (hn (.isRef (.static Bundle.tN "SUPPRESSED_SENTINEL" Bundle.listD)) (by decide +kernel)) (fun a h => Nat.not_le.mpr h)⟩
set_option maxRecDepth 20000 in
theorem lx_W {s : State} {b : Nat} (ht : ∀ w ∈ lw_tbl, w.before #[Value.ref b] s = true) : zn_W s :=
  ⟨va_Nw.of rfl (ht (.methodLinkNest RX3 9 yX1_init RX3) (by decide +kernel)), va_Nw.of rfl (ht (.methodLinkNest RX3 18 yX2_init RX3) (by decide +kernel)), va_Nw.of rfl (ht (.methodLinkNest RX3 25 yX0_init RX3) (by decide +kernel))⟩
theorem lx_arr {args : Array Value} {s : State} {ty : FieldType} (h : (Cond.arrayClass ty).before args s = true) : ∃ cA : ClassId, ArrOfT s cA ty ∧ s.vm.findClass ("[" ++ ty.toString) = some cA := by
  obtain ⟨cA, kA, comp, h1, h2, h3⟩ := Cond.arrayClass_spec (args := args) (first := s) (o := none) (s := s) (idx := []) h
  exact ⟨cA, fun n z => ⟨fun k h => (by cases h), kA, h2, comp, h3⟩, h1⟩
set_option maxHeartbeats 8000000 in
set_option maxRecDepth 100000 in
theorem big_start {p : Program} {e : Env} {s : State} {m : MethodId} {below : List Frame} {meth : Method} {c : Code} (l : Launch) (hflags : l.flags = flags0) {b L : Nat} {xs : Nat → Int32} (hL : L ≤ 260) (h208 : 208 ≤ L) (hxs : ∀ j, j < 104 → xs (2 * j) = 26 ∧ xs (2 * j + 1) = 10) (hx : p.tables.exec = Jvm.exec) (hb : c.code = code) (hml : c.maxLocals = 16) (hown : s.vm.findClass RL = some m.cls) (htl : ∀ w ∈ lw_tbl, w.before #[Value.ref b] s = true) (hX : va_X b L xs s s.heap) (hbl : b < s.heap.size) (hgv : (Jvm.Cond.and given_1 narrow_1).before #[Value.ref b] s = true) : W p l e room2 s m #[Value.ref b] below meth c s.heap [] 0 0 (fun t => s.heap.size + 312 ≤ t.heap.size) (entryFrame m ([Value.ref b] : List Value).toArray 16) := by
  have hts : ∀ w ∈ wsL_law, w.before #[Value.ref b] s = true := fun w h => htl w (wsL_law_in w h)
  have hl0 : l.stackTraces = false := by
    unfold Launch.stackTraces
    rw [hflags]
    decide +kernel
  have hS9 : CallFix p m c cL_law 16 s #[Value.ref b] wsL_law RL := ⟨hx, hb, hml, hown, hts⟩
  have hA : ∀ q : Nat, s.heap.size ≤ q → (fun q : Nat => s.heap.size ≤ q) q := fun _ h => h
  have hbA : ¬ (fun q : Nat => s.heap.size ≤ q) b := Nat.not_le.mpr hbl
  obtain ⟨c0, iS0, hKn0⟩ := u_known (C := RX0) (T := TX0) (N := 1) (n := 1) hts inlX0 (htl (.instantiable RX0 1) (by decide +kernel))
  obtain ⟨c1, iS1, hKn1⟩ := u_known (C := RX1) (T := TX1) (N := 7) (n := 7) hts inlX1 (htl (.instantiable RX1 7) (by decide +kernel))
  obtain ⟨c2, iS2, hKn2⟩ := u_known (C := RX2) (T := TX2) (N := 6) (n := 6) hts inlX2 (htl (.instantiable RX2 6) (by decide +kernel))
  obtain ⟨c3, iS3, hKn3⟩ := u_known (C := RX3) (T := TX3) (N := 4) (n := 4) hts inlX3 (htl (.instantiable RX3 4) (by decide +kernel))
  obtain ⟨dC, dI, hKc⟩ : ∃ (dC : Nat → ClassId) (dI : Nat → Nat → Nat), ∀ (k : Nat) (q : vw_C), vwCl[k]? = some q → u_Kn s q.1 q.2.1 q.2.2 (dC k) (dI k) := by
    refine ⟨fun k => if k = 0 then c0 else if k = 1 then c1 else if k = 2 then c2 else c3, fun k => if k = 0 then iS0 else if k = 1 then iS1 else if k = 2 then iS2 else iS3, ?_⟩
    intro k q hq
    match k, hq with
    | 0, hq => cases hq; exact hKn0
    | 1, hq => cases hq; exact hKn1
    | 2, hq => cases hq; exact hKn2
    | 3, hq => cases hq; exact hKn3
    | k + 4, hq => simp [vwCl] at hq
  obtain ⟨cI, hAcI, hFcI⟩ := lx_arr (htl (.arrayClass .int) (by decide +kernel))
  obtain ⟨cZ, hAcZ, hFcZ⟩ := lx_arr (htl (.arrayClass .boolean) (by decide +kernel))
  obtain ⟨cD, hAcD, hFcD⟩ := lx_arr (htl (.arrayClass .double) (by decide +kernel))
  have hK : va_K (dC, dI) vwCl (zq_T cI cZ cD) s := ⟨hKc, fun k q hq => by
    match k, hq with
    | 0, hq => cases hq; exact ⟨hAcI, hFcI⟩
    | 1, hq => cases hq; exact ⟨hAcZ, hFcZ⟩
    | 2, hq => cases hq; exact ⟨hAcD, hFcD⟩
    | k + 3, hq => simp at hq⟩
  have hE := lx_E htl hgv
  have hH := lx_H htl hgv
  have hWn := lx_W htl
  have hS : va_S (fun q : Nat => s.heap.size ≤ q) s.heap s.heap [] := va_S.rf
  have hP : va_P (dC, dI) vwCl [] s.heap := zq_P0
  have hD : va_D (fun q : Nat => s.heap.size ≤ q) [] := ⟨fun i j p q h => by simp at h, fun k q h => by simp at h⟩
  have hl := lv_entry ([.ref b]) (n := 16) (Nat.le_of_ble_eq_true rfl)
  rw [lg_entry_eq]
  generalize (lg_sl ([.ref b]) ++ List.replicate (16 - (lg_sl ([.ref b])).length) Slot.unset).toArray = ls at hl ⊢
  have hl : lv_has ls 16 [(0, .ref b)] := hl
  refine va_new (ci := 3) (fs := [.null, .null, .null, .int 0]) (C := RX3) (T := TX3) (N := 4) hx hb hts inlX3 tyX3 tyX3_ok hown (htl (.classLink RL 9 RX3) (by decide +kernel)) (htl (.instantiable RX3 4) (by decide +kernel)) (htl (.initialized RX3) (by decide +kernel)) hK hP hD hS hA rfl (fun j hj => by rcases (show j = 0 ∨ j = 1 ∨ j = 2 ∨ j = 3 by omega) with rfl | rfl | rfl | rfl <;> rfl) (Nat.le_of_ble_eq_true rfl) (Nat.le_of_ble_eq_true rfl) dL_law_0 (fun q1 H hP hD hS => ?_)
  have hP : va_P (dC, dI) vwCl [(q1, .inr (3, [.null, .null, .null, .int 0]))] H := hP
  have hD : va_D (fun q : Nat => s.heap.size ≤ q) [(q1, .inr (3, [.null, .null, .null, .int 0]))] := hD
  refine W.widen (k := 1) (n := 4) (by omega) (by omega) ?_
  refine lv_dup hx hb dL_law_3 rfl ?_
  have hFc := va_free (wc := [(q1, .inr (3, [.null, .null, .null, .int 0]))]) hD hS hA [0] rfl
  refine va_callv (va_runI (As := []) (rest := [.ref q1]) hS9 (c_X3_init l dC dI cI cZ cD q1 H.size) (cwI 0 hts gL_law_X3_init rfl rfl rfl (htl (.initialized RX3) (by decide +kernel)) (htl (.methodLink RL 138 yX3_init) (by decide +kernel)) (htl (.instanceMethod yX3_init) (by decide +kernel)) rfl (by decide +kernel) ⟨(Nat.le_of_ble_eq_true rfl), (Nat.le_of_ble_eq_true rfl)⟩) ⟨fun a U g mk q => by obtain ⟨q0, ⟨q1, qP, qK, qD⟩, qW⟩ := q; exact ⟨q0, ⟨q1, qP, va_K.moved (u := U) (U := U.calling g mk a) (Vm.Alike.refl U.vm) qK, qD⟩, zn_W.same rfl qW⟩, fun U hU hW => ⟨rfl, (zq_pre (As := []) hK hP hD [0] rfl rfl U hU hW).2, zn_W.warm hW hWn⟩⟩ rfl rfl hl.1 rfl (lv_room (Nat.le_of_ble_eq_true rfl)) dL_law_4 ⟨(Nat.le_of_ble_eq_true rfl), (Nat.le_of_ble_eq_true rfl)⟩) hS (fun q _ h => hFc q h) hFc (fun u t H1 locs ht hvm hw hB hz1 hk1 hS => ?_)
  obtain ⟨hP1, -, hD1⟩ := hB
  rw [ht] at hP1
  obtain ⟨hP8, hD8⟩ := va_join (wr := []) (w1 := (wRo u cI cZ cD (fun _ => 0) (fun _ => 0) (fun _ => 0) (fun _ => 0) (fun _ => 0) (fun _ => 0) (nI 0) (fun _ => 0) (fun _ => 0) (fun _ => 0) (fun _ => 0) (nI 0) (nI 0) (fun _ => 0) (nI 0))) hP hD [0] [] rfl rfl (by decide) (by decide) hk1 hFc hP1 hD1
  have hw : u 0 = q1 := hw
  subst hw
  have hS := hS
  generalize H1 = H at hP8 hS ⊢
  have hP : va_P (dC, dI) vwCl (wRo u cI cZ cD (fun _ => 0) (fun _ => 0) (fun _ => 0) (fun _ => 0) (fun _ => 0) (fun _ => 0) (nI 0) (fun _ => 0) (fun _ => 0) (fun _ => 0) (fun _ => 0) (nI 0) (nI 0) (fun _ => 0) (nI 0)) H := hP8
  have hD : va_D (fun q : Nat => s.heap.size ≤ q) (wRo u cI cZ cD (fun _ => 0) (fun _ => 0) (fun _ => 0) (fun _ => 0) (fun _ => 0) (fun _ => 0) (nI 0) (fun _ => 0) (fun _ => 0) (fun _ => 0) (fun _ => 0) (nI 0) (nI 0) (fun _ => 0) (nI 0)) := hD8
  refine W.widen (k := 15) (n := 438) (by omega) (by omega) ?_
  refine lv_astore_n (lv' := [(1, .ref (u 0)), (0, .ref b)]) hx hb dL_law_7 rfl hl (by decide) rfl (fun ls hl => ?_)
  refine lv_bipush (v := 40) hx hb dL_law_8 (by decide) ?_
  refine va_newa (atype := .int) (ty := .int) hx hb (htl (.arrayClass .int) (by decide +kernel)) rfl hK hP hD hS hA (n := 40) (N' := 40) (a0 := (40, .inl (fun _ => 0))) (fun _ => rfl) (by decide) rfl (by decide) (Nat.le_of_ble_eq_true rfl) (Nat.le_of_ble_eq_true rfl) dL_law_10 (fun o1 cX H hKX hP hD hS => ?_)
  have eX : cX = cI := zq_sameI hKX hK 0 rfl
  rw [eX] at hP hD
  have hP : va_P (dC, dI) vwCl ((wRo u cI cZ cD (fun _ => 0) (fun _ => 0) (fun _ => 0) (fun _ => 0) (fun _ => 0) (fun _ => 0) (nI 0) (fun _ => 0) (fun _ => 0) (fun _ => 0) (fun _ => 0) (nI 0) (nI 0) (fun _ => 0) (nI 0)) ++ [(o1, .inl (cI, 40, .inl (fun _ => 0)))] : va_W) H := hP
  have hD : va_D (fun q : Nat => s.heap.size ≤ q) ((wRo u cI cZ cD (fun _ => 0) (fun _ => 0) (fun _ => 0) (fun _ => 0) (fun _ => 0) (fun _ => 0) (nI 0) (fun _ => 0) (fun _ => 0) (fun _ => 0) (fun _ => 0) (nI 0) (nI 0) (fun _ => 0) (nI 0)) ++ [(o1, .inl (cI, 40, .inl (fun _ => 0)))] : va_W) := hD
  refine W.widen (k := 16) (n := 478) (by omega) (by omega) ?_
  refine lv_astore_n (lv' := [(2, .ref o1), (1, .ref (u 0)), (0, .ref b)]) hx hb dL_law_12 rfl hl (by decide) rfl (fun ls hl => ?_)
  refine lv_bipush (v := 40) hx hb dL_law_13 (by decide) ?_
  refine va_newa (atype := .double) (ty := .double) hx hb (htl (.arrayClass .double) (by decide +kernel)) rfl hK hP hD hS hA (n := 40) (N' := 40) (a0 := (40, .inr (.inr (.inr (.inl (fun _ => 0)))))) (fun _ => rfl) (by decide) rfl (by decide) (Nat.le_of_ble_eq_true rfl) (Nat.le_of_ble_eq_true rfl) dL_law_15 (fun o2 cX H hKX hP hD hS => ?_)
  have eX : cX = cD := zq_sameD hKX hK 2 rfl
  rw [eX] at hP hD
  have hP : va_P (dC, dI) vwCl ((wRo u cI cZ cD (fun _ => 0) (fun _ => 0) (fun _ => 0) (fun _ => 0) (fun _ => 0) (fun _ => 0) (nI 0) (fun _ => 0) (fun _ => 0) (fun _ => 0) (fun _ => 0) (nI 0) (nI 0) (fun _ => 0) (nI 0)) ++ [(o1, .inl (cI, 40, .inl (fun _ => 0))), (o2, .inl (cD, 40, .inr (.inr (.inr (.inl (fun _ => 0))))))] : va_W) H := hP
  have hD : va_D (fun q : Nat => s.heap.size ≤ q) ((wRo u cI cZ cD (fun _ => 0) (fun _ => 0) (fun _ => 0) (fun _ => 0) (fun _ => 0) (fun _ => 0) (nI 0) (fun _ => 0) (fun _ => 0) (fun _ => 0) (fun _ => 0) (nI 0) (nI 0) (fun _ => 0) (nI 0)) ++ [(o1, .inl (cI, 40, .inl (fun _ => 0))), (o2, .inl (cD, 40, .inr (.inr (.inr (.inl (fun _ => 0))))))] : va_W) := hD
  refine W.widen (k := 17) (n := 518) (by omega) (by omega) ?_
  refine lv_astore_n (lv' := [(3, .ref o2), (2, .ref o1), (1, .ref (u 0)), (0, .ref b)]) hx hb dL_law_17 rfl hl (by decide) rfl (fun ls hl => ?_)
  refine lv_bipush (v := 40) hx hb dL_law_18 (by decide) ?_
  refine va_newa (atype := .double) (ty := .double) hx hb (htl (.arrayClass .double) (by decide +kernel)) rfl hK hP hD hS hA (n := 40) (N' := 40) (a0 := (40, .inr (.inr (.inr (.inl (fun _ => 0)))))) (fun _ => rfl) (by decide) rfl (by decide) (Nat.le_of_ble_eq_true rfl) (Nat.le_of_ble_eq_true rfl) dL_law_20 (fun o3 cX H hKX hP hD hS => ?_)
  have eX : cX = cD := zq_sameD hKX hK 2 rfl
  rw [eX] at hP hD
  have hP : va_P (dC, dI) vwCl ((wRo u cI cZ cD (fun _ => 0) (fun _ => 0) (fun _ => 0) (fun _ => 0) (fun _ => 0) (fun _ => 0) (nI 0) (fun _ => 0) (fun _ => 0) (fun _ => 0) (fun _ => 0) (nI 0) (nI 0) (fun _ => 0) (nI 0)) ++ [(o1, .inl (cI, 40, .inl (fun _ => 0))), (o2, .inl (cD, 40, .inr (.inr (.inr (.inl (fun _ => 0)))))), (o3, .inl (cD, 40, .inr (.inr (.inr (.inl (fun _ => 0))))))] : va_W) H := hP
  have hD : va_D (fun q : Nat => s.heap.size ≤ q) ((wRo u cI cZ cD (fun _ => 0) (fun _ => 0) (fun _ => 0) (fun _ => 0) (fun _ => 0) (fun _ => 0) (nI 0) (fun _ => 0) (fun _ => 0) (fun _ => 0) (fun _ => 0) (nI 0) (nI 0) (fun _ => 0) (nI 0)) ++ [(o1, .inl (cI, 40, .inl (fun _ => 0))), (o2, .inl (cD, 40, .inr (.inr (.inr (.inl (fun _ => 0)))))), (o3, .inl (cD, 40, .inr (.inr (.inr (.inl (fun _ => 0))))))] : va_W) := hD
  refine W.widen (k := 18) (n := 558) (by omega) (by omega) ?_
  refine lv_astore (lv' := [(4, .ref o3), (3, .ref o2), (2, .ref o1), (1, .ref (u 0)), (0, .ref b)]) hx hb dL_law_22 hl (by decide) rfl (fun ls hl => ?_)
  refine lv_bipush (v := 30) hx hb dL_law_24 (by decide) ?_
  refine va_newa (atype := .int) (ty := .int) hx hb (htl (.arrayClass .int) (by decide +kernel)) rfl hK hP hD hS hA (n := 30) (N' := 30) (a0 := (30, .inl (fun _ => 0))) (fun _ => rfl) (by decide) rfl (by decide) (Nat.le_of_ble_eq_true rfl) (Nat.le_of_ble_eq_true rfl) dL_law_26 (fun o4 cX H hKX hP hD hS => ?_)
  have eX : cX = cI := zq_sameI hKX hK 0 rfl
  rw [eX] at hP hD
  have hP : va_P (dC, dI) vwCl ((wRo u cI cZ cD (fun _ => 0) (fun _ => 0) (fun _ => 0) (fun _ => 0) (fun _ => 0) (fun _ => 0) (nI 0) (fun _ => 0) (fun _ => 0) (fun _ => 0) (fun _ => 0) (nI 0) (nI 0) (fun _ => 0) (nI 0)) ++ [(o1, .inl (cI, 40, .inl (fun _ => 0))), (o2, .inl (cD, 40, .inr (.inr (.inr (.inl (fun _ => 0)))))), (o3, .inl (cD, 40, .inr (.inr (.inr (.inl (fun _ => 0)))))), (o4, .inl (cI, 30, .inl (fun _ => 0)))] : va_W) H := hP
  have hD : va_D (fun q : Nat => s.heap.size ≤ q) ((wRo u cI cZ cD (fun _ => 0) (fun _ => 0) (fun _ => 0) (fun _ => 0) (fun _ => 0) (fun _ => 0) (nI 0) (fun _ => 0) (fun _ => 0) (fun _ => 0) (fun _ => 0) (nI 0) (nI 0) (fun _ => 0) (nI 0)) ++ [(o1, .inl (cI, 40, .inl (fun _ => 0))), (o2, .inl (cD, 40, .inr (.inr (.inr (.inl (fun _ => 0)))))), (o3, .inl (cD, 40, .inr (.inr (.inr (.inl (fun _ => 0)))))), (o4, .inl (cI, 30, .inl (fun _ => 0)))] : va_W) := hD
  refine W.widen (k := 19) (n := 588) (by omega) (by omega) ?_
  refine lv_astore (lv' := [(5, .ref o4), (4, .ref o3), (3, .ref o2), (2, .ref o1), (1, .ref (u 0)), (0, .ref b)]) hx hb dL_law_28 hl (by decide) rfl (fun ls hl => ?_)
  refine lv_bipush (v := 30) hx hb dL_law_30 (by decide) ?_
  refine va_newa (atype := .int) (ty := .int) hx hb (htl (.arrayClass .int) (by decide +kernel)) rfl hK hP hD hS hA (n := 30) (N' := 30) (a0 := (30, .inl (fun _ => 0))) (fun _ => rfl) (by decide) rfl (by decide) (Nat.le_of_ble_eq_true rfl) (Nat.le_of_ble_eq_true rfl) dL_law_32 (fun o5 cX H hKX hP hD hS => ?_)
  have eX : cX = cI := zq_sameI hKX hK 0 rfl
  rw [eX] at hP hD
  have hP : va_P (dC, dI) vwCl ((wRo u cI cZ cD (fun _ => 0) (fun _ => 0) (fun _ => 0) (fun _ => 0) (fun _ => 0) (fun _ => 0) (nI 0) (fun _ => 0) (fun _ => 0) (fun _ => 0) (fun _ => 0) (nI 0) (nI 0) (fun _ => 0) (nI 0)) ++ [(o1, .inl (cI, 40, .inl (fun _ => 0))), (o2, .inl (cD, 40, .inr (.inr (.inr (.inl (fun _ => 0)))))), (o3, .inl (cD, 40, .inr (.inr (.inr (.inl (fun _ => 0)))))), (o4, .inl (cI, 30, .inl (fun _ => 0))), (o5, .inl (cI, 30, .inl (fun _ => 0)))] : va_W) H := hP
  have hD : va_D (fun q : Nat => s.heap.size ≤ q) ((wRo u cI cZ cD (fun _ => 0) (fun _ => 0) (fun _ => 0) (fun _ => 0) (fun _ => 0) (fun _ => 0) (nI 0) (fun _ => 0) (fun _ => 0) (fun _ => 0) (fun _ => 0) (nI 0) (nI 0) (fun _ => 0) (nI 0)) ++ [(o1, .inl (cI, 40, .inl (fun _ => 0))), (o2, .inl (cD, 40, .inr (.inr (.inr (.inl (fun _ => 0)))))), (o3, .inl (cD, 40, .inr (.inr (.inr (.inl (fun _ => 0)))))), (o4, .inl (cI, 30, .inl (fun _ => 0))), (o5, .inl (cI, 30, .inl (fun _ => 0)))] : va_W) := hD
  refine W.widen (k := 20) (n := 618) (by omega) (by omega) ?_
  refine lv_astore (lv' := [(6, .ref o5), (5, .ref o4), (4, .ref o3), (3, .ref o2), (2, .ref o1), (1, .ref (u 0)), (0, .ref b)]) hx hb dL_law_34 hl (by decide) rfl (fun ls hl => ?_)
  refine lv_bipush (v := 30) hx hb dL_law_36 (by decide) ?_
  refine va_newa (atype := .int) (ty := .int) hx hb (htl (.arrayClass .int) (by decide +kernel)) rfl hK hP hD hS hA (n := 30) (N' := 30) (a0 := (30, .inl (fun _ => 0))) (fun _ => rfl) (by decide) rfl (by decide) (Nat.le_of_ble_eq_true rfl) (Nat.le_of_ble_eq_true rfl) dL_law_38 (fun o6 cX H hKX hP hD hS => ?_)
  have eX : cX = cI := zq_sameI hKX hK 0 rfl
  rw [eX] at hP hD
  have hP : va_P (dC, dI) vwCl ((wRo u cI cZ cD (fun _ => 0) (fun _ => 0) (fun _ => 0) (fun _ => 0) (fun _ => 0) (fun _ => 0) (nI 0) (fun _ => 0) (fun _ => 0) (fun _ => 0) (fun _ => 0) (nI 0) (nI 0) (fun _ => 0) (nI 0)) ++ [(o1, .inl (cI, 40, .inl (fun _ => 0))), (o2, .inl (cD, 40, .inr (.inr (.inr (.inl (fun _ => 0)))))), (o3, .inl (cD, 40, .inr (.inr (.inr (.inl (fun _ => 0)))))), (o4, .inl (cI, 30, .inl (fun _ => 0))), (o5, .inl (cI, 30, .inl (fun _ => 0))), (o6, .inl (cI, 30, .inl (fun _ => 0)))] : va_W) H := hP
  have hD : va_D (fun q : Nat => s.heap.size ≤ q) ((wRo u cI cZ cD (fun _ => 0) (fun _ => 0) (fun _ => 0) (fun _ => 0) (fun _ => 0) (fun _ => 0) (nI 0) (fun _ => 0) (fun _ => 0) (fun _ => 0) (fun _ => 0) (nI 0) (nI 0) (fun _ => 0) (nI 0)) ++ [(o1, .inl (cI, 40, .inl (fun _ => 0))), (o2, .inl (cD, 40, .inr (.inr (.inr (.inl (fun _ => 0)))))), (o3, .inl (cD, 40, .inr (.inr (.inr (.inl (fun _ => 0)))))), (o4, .inl (cI, 30, .inl (fun _ => 0))), (o5, .inl (cI, 30, .inl (fun _ => 0))), (o6, .inl (cI, 30, .inl (fun _ => 0)))] : va_W) := hD
  refine W.widen (k := 21) (n := 648) (by omega) (by omega) ?_
  refine lv_astore (lv' := [(7, .ref o6), (6, .ref o5), (5, .ref o4), (4, .ref o3), (3, .ref o2), (2, .ref o1), (1, .ref (u 0)), (0, .ref b)]) hx hb dL_law_40 hl (by decide) rfl (fun ls hl => ?_)
  refine lv_bipush (v := 30) hx hb dL_law_42 (by decide) ?_
  refine va_newa (atype := .int) (ty := .int) hx hb (htl (.arrayClass .int) (by decide +kernel)) rfl hK hP hD hS hA (n := 30) (N' := 30) (a0 := (30, .inl (fun _ => 0))) (fun _ => rfl) (by decide) rfl (by decide) (Nat.le_of_ble_eq_true rfl) (Nat.le_of_ble_eq_true rfl) dL_law_44 (fun o7 cX H hKX hP hD hS => ?_)
  have eX : cX = cI := zq_sameI hKX hK 0 rfl
  rw [eX] at hP hD
  have hP : va_P (dC, dI) vwCl ((wRo u cI cZ cD (fun _ => 0) (fun _ => 0) (fun _ => 0) (fun _ => 0) (fun _ => 0) (fun _ => 0) (nI 0) (fun _ => 0) (fun _ => 0) (fun _ => 0) (fun _ => 0) (nI 0) (nI 0) (fun _ => 0) (nI 0)) ++ [(o1, .inl (cI, 40, .inl (fun _ => 0))), (o2, .inl (cD, 40, .inr (.inr (.inr (.inl (fun _ => 0)))))), (o3, .inl (cD, 40, .inr (.inr (.inr (.inl (fun _ => 0)))))), (o4, .inl (cI, 30, .inl (fun _ => 0))), (o5, .inl (cI, 30, .inl (fun _ => 0))), (o6, .inl (cI, 30, .inl (fun _ => 0))), (o7, .inl (cI, 30, .inl (fun _ => 0)))] : va_W) H := hP
  have hD : va_D (fun q : Nat => s.heap.size ≤ q) ((wRo u cI cZ cD (fun _ => 0) (fun _ => 0) (fun _ => 0) (fun _ => 0) (fun _ => 0) (fun _ => 0) (nI 0) (fun _ => 0) (fun _ => 0) (fun _ => 0) (fun _ => 0) (nI 0) (nI 0) (fun _ => 0) (nI 0)) ++ [(o1, .inl (cI, 40, .inl (fun _ => 0))), (o2, .inl (cD, 40, .inr (.inr (.inr (.inl (fun _ => 0)))))), (o3, .inl (cD, 40, .inr (.inr (.inr (.inl (fun _ => 0)))))), (o4, .inl (cI, 30, .inl (fun _ => 0))), (o5, .inl (cI, 30, .inl (fun _ => 0))), (o6, .inl (cI, 30, .inl (fun _ => 0))), (o7, .inl (cI, 30, .inl (fun _ => 0)))] : va_W) := hD
  refine W.widen (k := 22) (n := 678) (by omega) (by omega) ?_
  refine lv_astore (lv' := [(8, .ref o7), (7, .ref o6), (6, .ref o5), (5, .ref o4), (4, .ref o3), (3, .ref o2), (2, .ref o1), (1, .ref (u 0)), (0, .ref b)]) hx hb dL_law_46 hl (by decide) rfl (fun ls hl => ?_)
  refine lv_bipush (v := 30) hx hb dL_law_48 (by decide) ?_
  refine va_newa (atype := .int) (ty := .int) hx hb (htl (.arrayClass .int) (by decide +kernel)) rfl hK hP hD hS hA (n := 30) (N' := 30) (a0 := (30, .inl (fun _ => 0))) (fun _ => rfl) (by decide) rfl (by decide) (Nat.le_of_ble_eq_true rfl) (Nat.le_of_ble_eq_true rfl) dL_law_50 (fun o8 cX H hKX hP hD hS => ?_)
  have eX : cX = cI := zq_sameI hKX hK 0 rfl
  rw [eX] at hP hD
  have hP : va_P (dC, dI) vwCl ((wRo u cI cZ cD (fun _ => 0) (fun _ => 0) (fun _ => 0) (fun _ => 0) (fun _ => 0) (fun _ => 0) (nI 0) (fun _ => 0) (fun _ => 0) (fun _ => 0) (fun _ => 0) (nI 0) (nI 0) (fun _ => 0) (nI 0)) ++ [(o1, .inl (cI, 40, .inl (fun _ => 0))), (o2, .inl (cD, 40, .inr (.inr (.inr (.inl (fun _ => 0)))))), (o3, .inl (cD, 40, .inr (.inr (.inr (.inl (fun _ => 0)))))), (o4, .inl (cI, 30, .inl (fun _ => 0))), (o5, .inl (cI, 30, .inl (fun _ => 0))), (o6, .inl (cI, 30, .inl (fun _ => 0))), (o7, .inl (cI, 30, .inl (fun _ => 0))), (o8, .inl (cI, 30, .inl (fun _ => 0)))] : va_W) H := hP
  have hD : va_D (fun q : Nat => s.heap.size ≤ q) ((wRo u cI cZ cD (fun _ => 0) (fun _ => 0) (fun _ => 0) (fun _ => 0) (fun _ => 0) (fun _ => 0) (nI 0) (fun _ => 0) (fun _ => 0) (fun _ => 0) (fun _ => 0) (nI 0) (nI 0) (fun _ => 0) (nI 0)) ++ [(o1, .inl (cI, 40, .inl (fun _ => 0))), (o2, .inl (cD, 40, .inr (.inr (.inr (.inl (fun _ => 0)))))), (o3, .inl (cD, 40, .inr (.inr (.inr (.inl (fun _ => 0)))))), (o4, .inl (cI, 30, .inl (fun _ => 0))), (o5, .inl (cI, 30, .inl (fun _ => 0))), (o6, .inl (cI, 30, .inl (fun _ => 0))), (o7, .inl (cI, 30, .inl (fun _ => 0))), (o8, .inl (cI, 30, .inl (fun _ => 0)))] : va_W) := hD
  refine W.widen (k := 23) (n := 708) (by omega) (by omega) ?_
  refine lv_astore (lv' := [(9, .ref o8), (8, .ref o7), (7, .ref o6), (6, .ref o5), (5, .ref o4), (4, .ref o3), (3, .ref o2), (2, .ref o1), (1, .ref (u 0)), (0, .ref b)]) hx hb dL_law_52 hl (by decide) rfl (fun ls hl => ?_)
  refine lv_bipush (v := 30) hx hb dL_law_54 (by decide) ?_
  refine va_newa (atype := .int) (ty := .int) hx hb (htl (.arrayClass .int) (by decide +kernel)) rfl hK hP hD hS hA (n := 30) (N' := 30) (a0 := (30, .inl (fun _ => 0))) (fun _ => rfl) (by decide) rfl (by decide) (Nat.le_of_ble_eq_true rfl) (Nat.le_of_ble_eq_true rfl) dL_law_56 (fun o9 cX H hKX hP hD hS => ?_)
  have eX : cX = cI := zq_sameI hKX hK 0 rfl
  rw [eX] at hP hD
  have hP : va_P (dC, dI) vwCl ((wRo u cI cZ cD (fun _ => 0) (fun _ => 0) (fun _ => 0) (fun _ => 0) (fun _ => 0) (fun _ => 0) (nI 0) (fun _ => 0) (fun _ => 0) (fun _ => 0) (fun _ => 0) (nI 0) (nI 0) (fun _ => 0) (nI 0)) ++ [(o1, .inl (cI, 40, .inl (fun _ => 0))), (o2, .inl (cD, 40, .inr (.inr (.inr (.inl (fun _ => 0)))))), (o3, .inl (cD, 40, .inr (.inr (.inr (.inl (fun _ => 0)))))), (o4, .inl (cI, 30, .inl (fun _ => 0))), (o5, .inl (cI, 30, .inl (fun _ => 0))), (o6, .inl (cI, 30, .inl (fun _ => 0))), (o7, .inl (cI, 30, .inl (fun _ => 0))), (o8, .inl (cI, 30, .inl (fun _ => 0))), (o9, .inl (cI, 30, .inl (fun _ => 0)))] : va_W) H := hP
  have hD : va_D (fun q : Nat => s.heap.size ≤ q) ((wRo u cI cZ cD (fun _ => 0) (fun _ => 0) (fun _ => 0) (fun _ => 0) (fun _ => 0) (fun _ => 0) (nI 0) (fun _ => 0) (fun _ => 0) (fun _ => 0) (fun _ => 0) (nI 0) (nI 0) (fun _ => 0) (nI 0)) ++ [(o1, .inl (cI, 40, .inl (fun _ => 0))), (o2, .inl (cD, 40, .inr (.inr (.inr (.inl (fun _ => 0)))))), (o3, .inl (cD, 40, .inr (.inr (.inr (.inl (fun _ => 0)))))), (o4, .inl (cI, 30, .inl (fun _ => 0))), (o5, .inl (cI, 30, .inl (fun _ => 0))), (o6, .inl (cI, 30, .inl (fun _ => 0))), (o7, .inl (cI, 30, .inl (fun _ => 0))), (o8, .inl (cI, 30, .inl (fun _ => 0))), (o9, .inl (cI, 30, .inl (fun _ => 0)))] : va_W) := hD
  refine W.widen (k := 24) (n := 738) (by omega) (by omega) ?_
  refine lv_astore (lv' := [(10, .ref o9), (9, .ref o8), (8, .ref o7), (7, .ref o6), (6, .ref o5), (5, .ref o4), (4, .ref o3), (3, .ref o2), (2, .ref o1), (1, .ref (u 0)), (0, .ref b)]) hx hb dL_law_58 hl (by decide) rfl (fun ls hl => ?_)
  refine lv_iconst (v := 4) hx hb dL_law_60 (by decide) ?_
  refine va_newa (atype := .int) (ty := .int) hx hb (htl (.arrayClass .int) (by decide +kernel)) rfl hK hP hD hS hA (n := 4) (N' := 4) (a0 := (4, .inl (fun _ => 0))) (fun _ => rfl) (by decide) rfl (by decide) (Nat.le_of_ble_eq_true rfl) (Nat.le_of_ble_eq_true rfl) dL_law_61 (fun o10 cX H hKX hP hD hS => ?_)
  have eX : cX = cI := zq_sameI hKX hK 0 rfl
  rw [eX] at hP hD
  have hP : va_P (dC, dI) vwCl ((wRo u cI cZ cD (fun _ => 0) (fun _ => 0) (fun _ => 0) (fun _ => 0) (fun _ => 0) (fun _ => 0) (nI 0) (fun _ => 0) (fun _ => 0) (fun _ => 0) (fun _ => 0) (nI 0) (nI 0) (fun _ => 0) (nI 0)) ++ [(o1, .inl (cI, 40, .inl (fun _ => 0))), (o2, .inl (cD, 40, .inr (.inr (.inr (.inl (fun _ => 0)))))), (o3, .inl (cD, 40, .inr (.inr (.inr (.inl (fun _ => 0)))))), (o4, .inl (cI, 30, .inl (fun _ => 0))), (o5, .inl (cI, 30, .inl (fun _ => 0))), (o6, .inl (cI, 30, .inl (fun _ => 0))), (o7, .inl (cI, 30, .inl (fun _ => 0))), (o8, .inl (cI, 30, .inl (fun _ => 0))), (o9, .inl (cI, 30, .inl (fun _ => 0))), (o10, .inl (cI, 4, .inl (fun _ => 0)))] : va_W) H := hP
  have hD : va_D (fun q : Nat => s.heap.size ≤ q) ((wRo u cI cZ cD (fun _ => 0) (fun _ => 0) (fun _ => 0) (fun _ => 0) (fun _ => 0) (fun _ => 0) (nI 0) (fun _ => 0) (fun _ => 0) (fun _ => 0) (fun _ => 0) (nI 0) (nI 0) (fun _ => 0) (nI 0)) ++ [(o1, .inl (cI, 40, .inl (fun _ => 0))), (o2, .inl (cD, 40, .inr (.inr (.inr (.inl (fun _ => 0)))))), (o3, .inl (cD, 40, .inr (.inr (.inr (.inl (fun _ => 0)))))), (o4, .inl (cI, 30, .inl (fun _ => 0))), (o5, .inl (cI, 30, .inl (fun _ => 0))), (o6, .inl (cI, 30, .inl (fun _ => 0))), (o7, .inl (cI, 30, .inl (fun _ => 0))), (o8, .inl (cI, 30, .inl (fun _ => 0))), (o9, .inl (cI, 30, .inl (fun _ => 0))), (o10, .inl (cI, 4, .inl (fun _ => 0)))] : va_W) := hD
  refine W.widen (k := 25) (n := 742) (by omega) (by omega) ?_
  refine lv_astore (lv' := [(11, .ref o10), (10, .ref o9), (9, .ref o8), (8, .ref o7), (7, .ref o6), (6, .ref o5), (5, .ref o4), (4, .ref o3), (3, .ref o2), (2, .ref o1), (1, .ref (u 0)), (0, .ref b)]) hx hb dL_law_63 hl (by decide) rfl (fun ls hl => ?_)
  refine lv_iconst (v := 0) hx hb dL_law_65 (by decide) ?_
  refine lv_istore (lv' := [(12, .int 0), (11, .ref o10), (10, .ref o9), (9, .ref o8), (8, .ref o7), (7, .ref o6), (6, .ref o5), (5, .ref o4), (4, .ref o3), (3, .ref o2), (2, .ref o1), (1, .ref (u 0)), (0, .ref b)]) hx hb dL_law_66 hl (by decide) rfl (fun ls hl => ?_)
  obtain ⟨v, hv1, hv2, hv3, hv4, hv5, hv6, hv7, hv8, hv9, hv10⟩ : ∃ v : Nat → Nat, v 1 = o1 ∧ v 2 = o2 ∧ v 3 = o3 ∧ v 4 = o4 ∧ v 5 = o5 ∧ v 6 = o6 ∧ v 7 = o7 ∧ v 8 = o8 ∧ v 9 = o9 ∧ v 10 = o10 := ⟨fun k => if k = 1 then o1 else if k = 2 then o2 else if k = 3 then o3 else if k = 4 then o4 else if k = 5 then o5 else if k = 6 then o6 else if k = 7 then o7 else if k = 8 then o8 else if k = 9 then o9 else if k = 10 then o10 else 0, rfl, rfl, rfl, rfl, rfl, rfl, rfl, rfl, rfl, rfl⟩
  subst hv1
  subst hv2
  subst hv3
  subst hv4
  subst hv5
  subst hv6
  subst hv7
  subst hv8
  subst hv9
  subst hv10
  have hP : va_P (dC, dI) vwCl (wLw u v cI cZ cD (fun _ => 0) (fun _ => 0) (fun _ => 0) (fun _ => 0) (fun _ => 0) (fun _ => 0) (nI 0) (fun _ => 0) (fun _ => 0) (fun _ => 0) (fun _ => 0) (nI 0) (nI 0) (fun _ => 0) (nI 0) (fun _ => 0) (fun _ => 0) (fun _ => 0) (fun _ => 0) (fun _ => 0) (fun _ => 0) (fun _ => 0) (fun _ => 0) (fun _ => 0) (fun _ => 0)) H := hP
  have hD : va_D (fun q : Nat => s.heap.size ≤ q) (wLw u v cI cZ cD (fun _ => 0) (fun _ => 0) (fun _ => 0) (fun _ => 0) (fun _ => 0) (fun _ => 0) (nI 0) (fun _ => 0) (fun _ => 0) (fun _ => 0) (fun _ => 0) (nI 0) (nI 0) (fun _ => 0) (nI 0) (fun _ => 0) (fun _ => 0) (fun _ => 0) (fun _ => 0) (fun _ => 0) (fun _ => 0) (fun _ => 0) (fun _ => 0) (fun _ => 0) (fun _ => 0)) := hD
  have hl : lv_has ls 16 [(12, .int (nI 0)), (0, .ref b), (1, .ref (u 0)), (2, .ref (v 1)), (3, .ref (v 2)), (4, .ref (v 3)), (5, .ref (v 4)), (6, .ref (v 5)), (7, .ref (v 6)), (8, .ref (v 7)), (9, .ref (v 8)), (10, .ref (v 9)), (11, .ref (v 10))] := lv_sub hl [0, 12, 11, 10, 9, 8, 7, 6, 5, 4, 3, 2, 1] rfl
  have hend : ∀ (H : Heap) (locs : List Loc) (ls : Array Slot), s.heap.size + 312 ≤ H.size → W p l e room2 s m #[Value.ref b] below meth c H locs 768 5548 (fun t => s.heap.size + 312 ≤ t.heap.size) (F0 m 68 ls []) := fun H locs ls h9 T hT X => ⟨T.setTop (F0 m 68 ls []), Steps.refl _, by
    show s.heap.size + 312 ≤ T.heap.size
    rw [hT]
    exact h9⟩
  refine W.widen (k := 40 + 7 * 0) (n := 1180 + 42 * 0) (by omega) (by omega) ?_
  refine law_loop hl0 hS9 hA hE hH dC dI u v cI cZ cD hK hX hbl hbA hL h208 hxs hend 104 0 rfl H _ ls ⟨(fun _ => 0), (fun _ => 0), (fun _ => 0), (fun _ => 0), (fun _ => 0), (fun _ => 0), 0, (fun _ => 0), (fun _ => 0), (fun _ => 0), (fun _ => 0), 0, (nI 0), (fun _ => 0), (nI 0), (fun _ => 0), (fun _ => 0), (fun _ => 0), (fun _ => 0), (fun _ => 0), (fun _ => 0), (fun _ => 0), (fun _ => 0), (fun _ => 0), (fun _ => 0), (by omega), ?_, hP, hD, hS, hl, hS.1⟩
  exact ⟨rfl, rfl, fun i hi => absurd hi (Nat.not_lt_zero i), fun i hi => absurd hi (Nat.not_lt_zero i), fun _ => rfl, fun i hi => absurd hi (Nat.not_lt_zero i), fun _ => rfl, fun i hi => absurd hi (Nat.not_lt_zero i), fun i hi => absurd hi (Nat.not_lt_zero i), fun i hi => absurd hi (Nat.not_lt_zero i), fun i hi => absurd hi (Nat.not_lt_zero i), fun i hi => absurd hi (Nat.not_lt_zero i), fun i hi => absurd hi (Nat.not_lt_zero i), fun _ _ => zn_0, fun _ _ => zn_0⟩
