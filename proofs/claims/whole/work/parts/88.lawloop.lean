/-! the law's own loop, and its entry -/
theorem lx_str {args : Array Value} {s : State} {k : Nat} {tx : String} (h1 : (Cond.stringRef RX3 k tx).before args s = true) (h2 : (Cond.exactly (.string RX3 k) "java/lang/String").before args s = true) : zx_R k tx s := by
  obtain ⟨a, c, cell, k9, q1, -⟩ := Cond.exactly_spec (args := args) (first := s) (o := none) (s := s) (idx := []) (t := .string RX3 k) (cls := "java/lang/String") h2
  exact ⟨a, vk_R.of h1 q1⟩
set_option maxRecDepth 20000 in
theorem lx_E {s : State} {b : Nat} (ht : ∀ w ∈ lw_tbl, w.before #[Value.ref b] s = true) (hgv : (Jvm.Cond.and given_1 narrow_1).before #[Value.ref b] s = true) : zx_E s := by
  have hn := flat_of_before _ hgv
  refine ⟨⟨⟨⟨va_Nw.of rfl (ht (.castable zx_A zx_A) (by decide +kernel)), va_Nw.of rfl (ht (.castable zx_S zx_S) (by decide +kernel)), va_Nw.of rfl (ht (.castable zx_I zx_I) (by decide +kernel))⟩, va_Nc.of (hn (.not (.castable zx_S zx_A)) (by decide +kernel)), va_Nc.of (hn (.not (.castable zx_S zx_I)) (by decide +kernel))⟩, va_Nw.of rfl (ht zx_d1 (by decide +kernel)), va_Nw.of rfl (ht zx_d2 (by decide +kernel)), va_Nw.of rfl (ht zx_d3 (by decide +kernel))⟩, ?_, ?_, ?_, ?_, ?_, ?_, ?_, ?_, ?_, ?_, ?_⟩
  · exact lx_str (ht (.stringRef RX3 147 "there is no such class") (by decide +kernel)) (hn (.exactly (.string RX3 147) "java/lang/String") (by decide +kernel))
  · exact lx_str (ht (.stringRef RX3 44 "there are 40 lamps") (by decide +kernel)) (hn (.exactly (.string RX3 44) "java/lang/String") (by decide +kernel))
  · exact lx_str (ht (.stringRef RX3 54 "there are 30 miners") (by decide +kernel)) (hn (.exactly (.string RX3 54) "java/lang/String") (by decide +kernel))
  · exact lx_str (ht (.stringRef RX3 151 "there is no such miner") (by decide +kernel)) (hn (.exactly (.string RX3 151) "java/lang/String") (by decide +kernel))
  · exact lx_str (ht (.stringRef RX3 65 "the tally is on the board") (by decide +kernel)) (hn (.exactly (.string RX3 65) "java/lang/String") (by decide +kernel))
  · exact lx_str (ht (.stringRef RX3 73 "there is no lamp") (by decide +kernel)) (hn (.exactly (.string RX3 73) "java/lang/String") (by decide +kernel))
  · exact lx_str (ht (.stringRef RX3 83 "the tally is not on the board") (by decide +kernel)) (hn (.exactly (.string RX3 83) "java/lang/String") (by decide +kernel))
  · exact lx_str (ht (.stringRef RX3 154 "there is no such lamp") (by decide +kernel)) (hn (.exactly (.string RX3 154) "java/lang/String") (by decide +kernel))
  · exact lx_str (ht (.stringRef RX3 103 "the lamp is not on the rack") (by decide +kernel)) (hn (.exactly (.string RX3 103) "java/lang/String") (by decide +kernel))
  · exact lx_str (ht (.stringRef RX3 108 "the lamp is not set aside") (by decide +kernel)) (hn (.exactly (.string RX3 108) "java/lang/String") (by decide +kernel))
  · exact lx_str (ht (.stringRef RX3 115 "hours must be 1 to 100") (by decide +kernel)) (hn (.exactly (.string RX3 115) "java/lang/String") (by decide +kernel))
set_option maxRecDepth 20000 in
theorem lx_H {s : State} {b : Nat} (ht : ∀ w ∈ lw_tbl, w.before #[Value.ref b] s = true) (hgv : (Jvm.Cond.and given_1 narrow_1).before #[Value.ref b] s = true) : zx_H (fun q : Nat => s.heap.size ≤ q) s s.heap := by
  have hn := flat_of_before _ hgv
  exact ⟨vx_Zqof (ht (.laysStatic Bundle.tN "UNASSIGNED_STACK" Bundle.steD) (by decide +kernel)) (ht (.initialized Bundle.tN) (by decide +kernel)) (hn (.isRef (.static Bundle.tN "UNASSIGNED_STACK" Bundle.steD)) (by decide +kernel)) (fun a h => Nat.not_le.mpr h),
    vx_Zqof (ht (.laysStatic Bundle.tN "SUPPRESSED_SENTINEL" Bundle.listD) (by decide +kernel)) (ht (.initialized Bundle.tN) (by decide +kernel)) (hn (.isRef (.static Bundle.tN "SUPPRESSED_SENTINEL" Bundle.listD)) (by decide +kernel)) (fun a h => Nat.not_le.mpr h)⟩
set_option maxRecDepth 20000 in
theorem lx_W {s : State} {b : Nat} (ht : ∀ w ∈ lw_tbl, w.before #[Value.ref b] s = true) : zn_W s :=
  ⟨va_Nw.of rfl (ht (.methodLinkNest RX3 9 yX1_init RX3) (by decide +kernel)), va_Nw.of rfl (ht (.methodLinkNest RX3 18 yX2_init RX3) (by decide +kernel)), va_Nw.of rfl (ht (.methodLinkNest RX3 25 yX0_init RX3) (by decide +kernel))⟩
theorem lx_len {L i : Nat} (hL : L ≤ 1024) (hi : 2 * i < 2 ^ 31) : (nI L - 2 < nI (2 * i)) ↔ L < 2 * i + 2 := by
  match L, hL with
  | 0, _ =>
    refine iff_of_true ?_ (by omega)
    rw [Int32.lt_iff_toInt_lt, nI_toInt hi, show (nI 0 - 2).toInt = -2 by decide +kernel]
    omega
  | 1, _ =>
    refine iff_of_true ?_ (by omega)
    rw [Int32.lt_iff_toInt_lt, nI_toInt hi, show (nI 1 - 2).toInt = -1 by decide +kernel]
    omega
  | k + 2, hL =>
    rw [← nI_add k 2, show nI k + nI 2 - 2 = nI k from Int32.add_sub_cancel _ _, nI_ltI (by omega) hi]
    omega
set_option maxHeartbeats 4000000 in
set_option maxRecDepth 100000 in
theorem law_loop {p : Program} {l : Launch} {e : Env} {s : State} {m : MethodId} {args : Array Value} {below : List Frame} {meth : Method} {c : Code} {Q : State → Prop} {A : Nat → Prop} {sb L : Nat} {xs : Nat → Int32} (hl0 : l.stackTraces = false) (S : CallFix p m c cL_law 9 s args wsL_law RL) (hX : va_X sb L xs s s.heap) (hbl : sb < s.heap.size) (hbA : ¬ A sb) (hA : ∀ q, s.heap.size ≤ q → A q) (hE : zx_E s) (hH : zx_H A s s.heap) (hL : L ≤ 1024) (dC : Nat → ClassId) (dI : Nat → Nat → Nat) (u v : Nat → Nat) (cI cZ cD cJ : ClassId) (o o2 : Nat) (hK : va_K (dC, dI) vwCl (zq_T4 cI cZ cD cJ) s)
    (hend : ∀ (H : Heap) (locs : List Loc) (ls : Array Slot) (cells slots : Nat), cells ≤ 1064 → slots ≤ 9135 → va_S A s.heap H locs → W p l e room_1 s m args below meth c H locs cells slots Q (F0 m 1124 ls [])) :
    ∀ (n i : Nat), i + n = 512 → ∀ (H : Heap) (locs : List Loc) (ls : Array Slot), lq_I (dC, dI) A s u v cI cZ cD cJ o o2 sb i i H locs ls → W p l e room_1 s m args below meth c H locs (29 + i) (877 + 6 * i) Q (F0 m 28 ls []) := by
  intro n
  induction n with
  | zero =>
    intro i hi9 H locs ls R0
    obtain ⟨ki, pl, tu, le, ch, ca, N, tk, th, hu, od, M, tt, be, ho, mt, mb, ma, bo, al, ou, od2, r, hP, hD, hS, hl⟩ := id R0
    obtain ⟨hx, hb, hml, hown, hts⟩ := id S
    refine lv_iload hx hb dL_law_28 (lv_at hl 0 rfl) ?_
    refine lv_aload_n hx hb dL_law_30 rfl (lv_at hl 1 rfl) ?_
    refine va_slen hx hb hX hbl hbA hS dL_law_31 ?_
    refine lv_iconst (v := 2) hx hb dL_law_32 (by decide) ?_
    refine lv_isub hx hb dL_law_33 ?_
    refine lv_icmp_gt (tgt := 1124) hx hb dL_law_34 (by decide) (fun _ => ?_) (fun c9 => absurd ((lx_len hL (by omega)).mpr (by omega)) c9)
    exact hend H locs ls _ _ (by omega) (by omega) hS
  | succ n ih =>
    intro i hi9 H locs ls R0
    obtain ⟨ki, pl, tu, le, ch, ca, N, tk, th, hu, od, M, tt, be, ho, mt, mb, ma, bo, al, ou, od2, r, hP, hD, hS, hl⟩ := id R0
    obtain ⟨hx, hb, hml, hown, hts⟩ := id S
    refine lv_iload hx hb dL_law_28 (lv_at hl 0 rfl) ?_
    refine lv_aload_n hx hb dL_law_30 rfl (lv_at hl 1 rfl) ?_
    refine va_slen hx hb hX hbl hbA hS dL_law_31 ?_
    refine lv_iconst (v := 2) hx hb dL_law_32 (by decide) ?_
    refine lv_isub hx hb dL_law_33 ?_
    refine lv_icmp_gt (tgt := 1124) hx hb dL_law_34 (by decide) (fun _ => hend H locs ls _ _ (by omega) (by omega) hS) (fun c9 => ?_)
    have hi : 2 * i + 1 < L := by
      have h9 : ¬ L < 2 * i + 2 := fun q => c9 ((lx_len hL (by omega)).mpr q)
      omega
    have ih1 := ih (i + 1) (by omega)
    rw [show 29 + (i + 1) = 29 + i + 1 by omega, show 877 + 6 * (i + 1) = 877 + 6 * i + 6 by omega] at ih1
    have kk : ∀ (H1 : Heap) (locs1 : List Loc) (ls1 : Array Slot), lq_I (dC, dI) A s u v cI cZ cD cJ o o2 sb (i + 1) i H1 locs1 ls1 → W p l e room_1 s m args below meth c H1 locs1 (29 + i + 1) (877 + 6 * i + 6) Q (F0 m 1118 ls1 []) := by
      intro H1 locs1 ls1 R1
      obtain ⟨ki, pl, tu, le, ch, ca, N, tk, th, hu, od, M, tt, be, ho, mt, mb, ma, bo, al, ou, od2, r, hP, hD, hS, hl⟩ := R1
      refine lv_iinc (k := 0) (v := nI (2 * (i + 1))) (lv' := [(5, .int (nI (2 * (i + 1)))), (0, .ref sb), (1, .ref (u 0)), (2, .ref (v 0)), (3, .ref o), (4, .ref o2)]) hx hb dL_law_1118 hl rfl (by rw [show (Int32.ofInt 2) = nI 2 from rfl, nI_add]; rfl) (by decide) rfl (fun ls hl => ?_)
      refine lv_goto (tgt := 28) hx hb dL_law_1121 (by decide) ?_
      exact ih1 H1 locs1 ls (lq_mk r hP hD hS hl)
    have hcs : 29 + i + 1 ≤ room_1.cells ∧ 877 + 6 * i + 6 ≤ room_1.slots := ⟨show 29 + i + 1 ≤ 1064 by omega, show 877 + 6 * i + 6 ≤ 9135 by omega⟩
    have hC : i < 512 := by omega
    refine lv_aload_n hx hb dL_law_37 rfl (lv_at hl 1 rfl) ?_
    refine lv_iload hx hb dL_law_38 (lv_at hl 0 rfl) ?_
    refine va_sld hx hb hX hbl hbA hS (vp_in_nI (show 2 * i < L by omega) (by omega)) dL_law_40 ?_
    refine lv_bipush (v := 31) hx hb dL_law_41 (by decide) ?_
    refine lv_iand hx hb dL_law_43 ?_
    generalize xs (nI (2 * i)).toNatClampNeg &&& 31 = x9
    by_cases h9 : x9.toInt < 0 ∨ 19 < x9.toInt
    · exact lv_tableOut (tgt := 1118) hx hb dL_law_44 h9 (by decide) (W.widen (Nat.le_succ _) (Nat.le_add_right _ 6) (kk H locs ls (lq_mk r.up hP hD hS hl)))
    · have h1 : ¬ x9.toInt < 0 := fun q => h9 (Or.inl q)
      have h2 : ¬ 19 < x9.toInt := fun q => h9 (Or.inr q)
      rcases (show x9.toInt = 0 ∨ x9.toInt = 1 ∨ x9.toInt = 2 ∨ x9.toInt = 3 ∨ x9.toInt = 4 ∨ x9.toInt = 5 ∨ x9.toInt = 6 ∨ x9.toInt = 7 ∨ x9.toInt = 8 ∨ x9.toInt = 9 ∨ x9.toInt = 10 ∨ x9.toInt = 11 ∨ x9.toInt = 12 ∨ x9.toInt = 13 ∨ x9.toInt = 14 ∨ x9.toInt = 15 ∨ x9.toInt = 16 ∨ x9.toInt = 17 ∨ x9.toInt = 18 ∨ x9.toInt = 19 by omega) with hz | hz | hz | hz | hz | hz | hz | hz | hz | hz | hz | hz | hz | hz | hz | hz | hz | hz | hz | hz
      · exact lv_tableIn (off := 96) (tgt := 140) hx hb dL_law_44 h1 h2 (by rw [hz]; rfl) (by decide) (lo_addLamp hl0 S hX hbl hbA hA hE hH hi hL hcs dC dI u v cI cZ cD cJ o o2 hK hC R0 kk)
      · exact lv_tableIn (off := 152) (tgt := 196) hx hb dL_law_44 h1 h2 (by rw [hz]; rfl) (by decide) (lo_addMiner hl0 S hX hbl hbA hA hE hH hi hL hcs dC dI u v cI cZ cD cJ o o2 hK hC R0 kk)
      · exact lv_tableIn (off := 208) (tgt := 252) hx hb dL_law_44 h1 h2 (by rw [hz]; rfl) (by decide) (lo_issue hl0 S hX hbl hbA hA hE hH hi hL hcs dC dI u v cI cZ cD cJ o o2 hK hC R0 kk)
      · exact lv_tableIn (off := 264) (tgt := 308) hx hb dL_law_44 h1 h2 (by rw [hz]; rfl) (by decide) (lo_back hl0 S hX hbl hbA hA hE hH hi hL hcs dC dI u v cI cZ cD cJ o o2 hK hC R0 kk)
      · exact lv_tableIn (off := 320) (tgt := 364) hx hb dL_law_44 h1 h2 (by rw [hz]; rfl) (by decide) (lo_test hl0 S hX hbl hbA hA hE hH hi hL hcs dC dI u v cI cZ cD cJ o o2 hK hC R0 kk)
      · exact lv_tableIn (off := 376) (tgt := 420) hx hb dL_law_44 h1 h2 (by rw [hz]; rfl) (by decide) (lo_mend hl0 S hX hbl hbA hA hE hH hi hL hcs dC dI u v cI cZ cD cJ o o2 hK hC R0 kk)
      · exact lv_tableIn (off := 439) (tgt := 483) hx hb dL_law_44 h1 h2 (by rw [hz]; rfl) (by decide) (lo_hours hl0 S hX hbl hbA hA hE hH hi hL hcs dC dI u v cI cZ cD cJ o o2 hK hC R0 kk)
      · exact lv_tableIn (off := 495) (tgt := 539) hx hb dL_law_44 h1 h2 (by rw [hz]; rfl) (by decide) (lo_below hl0 S hX hbl hbA hA hE hH hi hL hcs dC dI u v cI cZ cD cJ o o2 hK hC R0 kk)
      · exact lv_tableIn (off := 508) (tgt := 552) hx hb dL_law_44 h1 h2 (by rw [hz]; rfl) (by decide) (lo_board hl0 S hX hbl hbA hA hE hH hi hL hcs dC dI u v cI cZ cD cJ o o2 hK hC R0 kk)
      · exact lv_tableIn (off := 533) (tgt := 577) hx hb dL_law_44 h1 h2 (by rw [hz]; rfl) (by decide) (lo_lampOf hl0 S hX hbl hbA hA hE hH hi hL hcs dC dI u v cI cZ cD cJ o o2 hK hC R0 kk)
      · exact lv_tableIn (off := 589) (tgt := 633) hx hb dL_law_44 h1 h2 (by rw [hz]; rfl) (by decide) (lo_hoursBelow hl0 S hX hbl hbA hA hE hH hi hL hcs dC dI u v cI cZ cD cJ o o2 hK hC R0 kk)
      · exact lv_tableIn (off := 645) (tgt := 689) hx hb dL_law_44 h1 h2 (by rw [hz]; rfl) (by decide) (lo_placeOf hl0 S hX hbl hbA hA hE hH hi hL hcs dC dI u v cI cZ cD cJ o o2 hK hC R0 kk)
      · exact lv_tableIn (off := 701) (tgt := 745) hx hb dL_law_44 h1 h2 (by rw [hz]; rfl) (by decide) (lo_chargeOf hl0 S hX hbl hbA hA hE hH hi hL hcs dC dI u v cI cZ cD cJ o o2 hK hC R0 kk)
      · exact lv_tableIn (off := 778) (tgt := 822) hx hb dL_law_44 h1 h2 (by rw [hz]; rfl) (by decide) (lo_capacityOf hl0 S hX hbl hbA hA hE hH hi hL hcs dC dI u v cI cZ cD cJ o o2 hK hC R0 kk)
      · exact lv_tableIn (off := 855) (tgt := 899) hx hb dL_law_44 h1 h2 (by rw [hz]; rfl) (by decide) (lo_turnsOf hl0 S hX hbl hbA hA hE hH hi hL hcs dC dI u v cI cZ cD cJ o o2 hK hC R0 kk)
      · exact lv_tableIn (off := 911) (tgt := 955) hx hb dL_law_44 h1 h2 (by rw [hz]; rfl) (by decide) (lo_ready hl0 S hX hbl hbA hA hE hH hi hL hcs dC dI u v cI cZ cD cJ o o2 hK hC R0 kk)
      · exact lv_tableIn (off := 967) (tgt := 1011) hx hb dL_law_44 h1 h2 (by rw [hz]; rfl) (by decide) (lo_spares hl0 S hX hbl hbA hA hE hH hi hL hcs dC dI u v cI cZ cD cJ o o2 hK hC R0 kk)
      · exact lv_tableIn (off := 980) (tgt := 1024) hx hb dL_law_44 h1 h2 (by rw [hz]; rfl) (by decide) (lo_alarm hl0 S hX hbl hbA hA hE hH hi hL hcs dC dI u v cI cZ cD cJ o o2 hK hC R0 kk)
      · exact lv_tableIn (off := 1005) (tgt := 1049) hx hb dL_law_44 h1 h2 (by rw [hz]; rfl) (by decide) (lo_lightLeft hl0 S hX hbl hbA hA hE hH hi hL hcs dC dI u v cI cZ cD cJ o o2 hK hC R0 kk)
      · exact lv_tableIn (off := 1061) (tgt := 1105) hx hb dL_law_44 h1 h2 (by rw [hz]; rfl) (by decide) (lo_rackCharge hl0 S hX hbl hbA hA hE hH hi hL hcs dC dI u v cI cZ cD cJ o o2 hK hC R0 kk)
theorem lx_r0 : zr_R 0 0 0 (fun _ => 0) (fun _ => 0) (fun _ => 0) (fun _ => 0) (fun _ => 0) (fun _ => 0) 0 (fun _ => 0) 0 0 0 (fun _ => 0) (fun _ => 0) :=
  ⟨Nat.zero_le _, Nat.zero_le _, fun _ _ => Nat.zero_le _, fun _ _ => Nat.zero_le _, fun _ => Or.inl rfl, fun mi h => absurd h (Nat.not_lt_zero mi), fun mi h => absurd h (Nat.not_lt_zero mi), Nat.le_refl 0, Nat.zero_le _, fun x h => absurd h (Nat.not_lt_zero x),
    ⟨[], rfl, fun i x h => by simp at h, List.Pairwise.nil, fun x => ⟨fun h => absurd h List.not_mem_nil, fun h => absurd h.1 (Nat.not_lt_zero x)⟩⟩,
    ⟨[], rfl, fun i x h => by simp at h, List.Pairwise.nil, fun x => ⟨fun h => absurd h List.not_mem_nil, fun h => absurd (of_decide_eq_true h.2) (fun q => q rfl)⟩, fun x h => absurd h List.not_mem_nil⟩⟩
theorem lx_arr {args : Array Value} {s : State} {ty : FieldType} (h : (Cond.arrayClass ty).before args s = true) : ∃ cA : ClassId, ArrOfT s cA ty ∧ s.vm.findClass ("[" ++ ty.toString) = some cA := by
  obtain ⟨cA, kA, comp, h1, h2, h3⟩ := Cond.arrayClass_spec (args := args) (first := s) (o := none) (s := s) (idx := []) h
  exact ⟨cA, fun n z => ⟨fun k h => (by cases h), kA, h2, comp, h3⟩, h1⟩
