def lq_I (D : va_G) (A : Nat → Prop) (s : State) (u v : Nat → Nat) (cI cZ cD cJ : ClassId) (o o2 : Nat) (sb C i : Nat) (H : Heap) (locs : List Loc) (ls : Array Slot) : Prop :=
  ∃ (ki pl tu le : Nat → Int32) (ch ca : Nat → UInt64) (N : Nat) (tk th hu od : Nat → Int32) (M tt : Nat) (be : Nat → Int32) (ho : Nat) (mt : Int32) (mb ma : Nat) (bo al : Nat → Int32) (ou : Nat → Int64) (od2 : Nat → UInt64), zr_R C N M le ch ca tk th od tt be ho mb ma bo al ∧ va_P D vwCl ((wRo u cI cZ cD ki pl tu le ch ca (nI N) tk th hu od (nI M) (nI tt) be (nI ho)) ++ (wMo v cI cZ cD mt (nI ho) (nI N) ki pl tu le ch ca (nI M) tk th hu (nI mb) bo (nI ma) al) ++ [(o, .inl (cJ, 1, .inr (.inl ou))), (o2, .inl (cD, 1, .inr (.inr (.inr (.inl od2)))))]) H ∧ va_D A ((wRo u cI cZ cD ki pl tu le ch ca (nI N) tk th hu od (nI M) (nI tt) be (nI ho)) ++ (wMo v cI cZ cD mt (nI ho) (nI N) ki pl tu le ch ca (nI M) tk th hu (nI mb) bo (nI ma) al) ++ [(o, .inl (cJ, 1, .inr (.inl ou))), (o2, .inl (cD, 1, .inr (.inr (.inr (.inl od2)))))]) ∧ va_S A s.heap H locs ∧ lv_has ls 9 [(5, .int (nI (2 * i))), (0, .ref sb), (1, .ref (u 0)), (2, .ref (v 0)), (3, .ref o), (4, .ref o2)]
theorem lq_mk {D : va_G} {A : Nat → Prop} {s : State} {u v : Nat → Nat} {cI cZ cD cJ : ClassId} {o o2 : Nat} {sb C i : Nat} {H : Heap} {locs : List Loc} {ls : Array Slot} {ki pl tu le : Nat → Int32} {ch ca : Nat → UInt64} {N : Nat} {tk th hu od : Nat → Int32} {M tt : Nat} {be : Nat → Int32} {ho : Nat} {mt : Int32} {mb ma : Nat} {bo al : Nat → Int32} {ou : Nat → Int64} {od2 : Nat → UInt64} (r : zr_R C N M le ch ca tk th od tt be ho mb ma bo al) (hP : va_P D vwCl ((wRo u cI cZ cD ki pl tu le ch ca (nI N) tk th hu od (nI M) (nI tt) be (nI ho)) ++ (wMo v cI cZ cD mt (nI ho) (nI N) ki pl tu le ch ca (nI M) tk th hu (nI mb) bo (nI ma) al) ++ [(o, .inl (cJ, 1, .inr (.inl ou))), (o2, .inl (cD, 1, .inr (.inr (.inr (.inl od2)))))]) H) (hD : va_D A ((wRo u cI cZ cD ki pl tu le ch ca (nI N) tk th hu od (nI M) (nI tt) be (nI ho)) ++ (wMo v cI cZ cD mt (nI ho) (nI N) ki pl tu le ch ca (nI M) tk th hu (nI mb) bo (nI ma) al) ++ [(o, .inl (cJ, 1, .inr (.inl ou))), (o2, .inl (cD, 1, .inr (.inr (.inr (.inl od2)))))])) (hS : va_S A s.heap H locs) (hl : lv_has ls 9 [(5, .int (nI (2 * i))), (0, .ref sb), (1, .ref (u 0)), (2, .ref (v 0)), (3, .ref o), (4, .ref o2)]) : lq_I D A s u v cI cZ cD cJ o o2 sb C i H locs ls :=
  ⟨ki, pl, tu, le, ch, ca, N, tk, th, hu, od, M, tt, be, ho, mt, mb, ma, bo, al, ou, od2, r, hP, hD, hS, hl⟩
theorem lq_best {ki pl : Nat → Int32} {ch : Nat → UInt64} {n : Nat} : ∀ f k, la_best ki pl ch n f k = -1 ∨ ∃ j, j < n ∧ la_best ki pl ch n f k = nI j
  | 0, _ => Or.inl rfl
  | f + 1, k => by
    rw [la_best]
    split
    · exact lq_best f (k + 1)
    · exact la_full_or ki pl ch (nI k) n

set_option maxHeartbeats 4000000 in
theorem lo_addLamp {p : Program} {l : Launch} {e : Env} {s : State} {m : MethodId} {args : Array Value} {below : List Frame} {meth : Method} {c : Code} {H : Heap} {locs : List Loc} {cells slots : Nat} {Q : State → Prop} {ls : Array Slot} {A : Nat → Prop} {sb L i : Nat} {xs : Nat → Int32} (hl0 : l.stackTraces = false) (S : CallFix p m c cL_law 9 s args wsL_law RL) (hX : va_X sb L xs s s.heap) (hbl : sb < s.heap.size) (hbA : ¬ A sb) (hA : ∀ q, s.heap.size ≤ q → A q) (hE : zx_E s) (hH : zx_H A s s.heap) (hi : 2 * i + 1 < L) (hL : L ≤ 1024) (hcs : cells + 1 ≤ room_1.cells ∧ slots + 6 ≤ room_1.slots) (dC : Nat → ClassId) (dI : Nat → Nat → Nat) (u v : Nat → Nat) (cI cZ cD cJ : ClassId) (o o2 : Nat) (hK : va_K (dC, dI) vwCl (zq_T4 cI cZ cD cJ) s) (hC : i < 512) (r : lq_I (dC, dI) A s u v cI cZ cD cJ o o2 sb i i H locs ls) (kk : ∀ (H1 : Heap) (locs1 : List Loc) (ls1 : Array Slot), lq_I (dC, dI) A s u v cI cZ cD cJ o o2 sb (i + 1) i H1 locs1 ls1 → W p l e room_1 s m args below meth c H1 locs1 (cells + 1) (slots + 6) Q (F0 m 1118 ls1 [])) : W p l e room_1 s m args below meth c H locs cells slots Q (F0 m 140 ls []) := by
  obtain ⟨ki, pl, tu, le, ch, ca, N, tk, th, hu, od, M, tt, be, ho, mt, mb, ma, bo, al, ou, od2, r, hP, hD, hS, hl⟩ := r
  have hN := r.hN
  have hM := r.hM
  have hmb := r.b30
  have hma := r.a60
  cases hk : in_b (xs (2 * i + 1)) 0 2 with
  | false => exact lq_addLamp_bad hl0 S hX hbl hbA hA hE hH hi hL hcs dC dI u v cI cZ cD cJ o o2 ki pl tu le ch ca N tk th hu od M tt be ho mt mb ma bo al ou od2 hN hM hmb hma _ hk rfl hK hP hD hS hl (fun H1 locs1 ls1 hP hD hS hl => kk H1 locs1 ls1 (lq_mk r.up hP hD hS hl))
  | true =>
    by_cases hf : N = 40
    · exact lq_addLamp_full hl0 S hX hbl hbA hA hE hH hi hL hcs dC dI u v cI cZ cD cJ o o2 ki pl tu le ch ca N tk th hu od M tt be ho mt mb ma bo al ou od2 hN hM hmb hma _ hk hf rfl hK hP hD hS hl (fun H1 locs1 ls1 hP hD hS hl => kk H1 locs1 ls1 (lq_mk r.up hP hD hS hl))
    · have hf2 : N < 40 := by omega
      exact lq_addLamp_ok hl0 S hX hbl hbA hA hE hH hi hL hcs dC dI u v cI cZ cD cJ o o2 ki pl tu le ch ca N tk th hu od M tt be ho mt mb ma bo al ou od2 hN hM hmb hma _ hk hf2 rfl hK hP hD hS hl (fun H1 locs1 ls1 hP hD hS hl => W.widen (Nat.le_succ cells) (Nat.le_add_right slots 6) (kk H1 locs1 ls1 (lq_mk (r.addLamp _ hf2) hP hD hS hl)))

set_option maxHeartbeats 4000000 in
theorem lo_addMiner {p : Program} {l : Launch} {e : Env} {s : State} {m : MethodId} {args : Array Value} {below : List Frame} {meth : Method} {c : Code} {H : Heap} {locs : List Loc} {cells slots : Nat} {Q : State → Prop} {ls : Array Slot} {A : Nat → Prop} {sb L i : Nat} {xs : Nat → Int32} (hl0 : l.stackTraces = false) (S : CallFix p m c cL_law 9 s args wsL_law RL) (hX : va_X sb L xs s s.heap) (hbl : sb < s.heap.size) (hbA : ¬ A sb) (hA : ∀ q, s.heap.size ≤ q → A q) (hE : zx_E s) (hH : zx_H A s s.heap) (hi : 2 * i + 1 < L) (hL : L ≤ 1024) (hcs : cells + 1 ≤ room_1.cells ∧ slots + 6 ≤ room_1.slots) (dC : Nat → ClassId) (dI : Nat → Nat → Nat) (u v : Nat → Nat) (cI cZ cD cJ : ClassId) (o o2 : Nat) (hK : va_K (dC, dI) vwCl (zq_T4 cI cZ cD cJ) s) (hC : i < 512) (r : lq_I (dC, dI) A s u v cI cZ cD cJ o o2 sb i i H locs ls) (kk : ∀ (H1 : Heap) (locs1 : List Loc) (ls1 : Array Slot), lq_I (dC, dI) A s u v cI cZ cD cJ o o2 sb (i + 1) i H1 locs1 ls1 → W p l e room_1 s m args below meth c H1 locs1 (cells + 1) (slots + 6) Q (F0 m 1118 ls1 [])) : W p l e room_1 s m args below meth c H locs cells slots Q (F0 m 196 ls []) := by
  obtain ⟨ki, pl, tu, le, ch, ca, N, tk, th, hu, od, M, tt, be, ho, mt, mb, ma, bo, al, ou, od2, r, hP, hD, hS, hl⟩ := r
  have hN := r.hN
  have hM := r.hM
  have hmb := r.b30
  have hma := r.a60
  cases hk : in_b (xs (2 * i + 1)) 0 2 with
  | false => exact lq_addMiner_bad hl0 S hX hbl hbA hA hE hH hi hL hcs dC dI u v cI cZ cD cJ o o2 ki pl tu le ch ca N tk th hu od M tt be ho mt mb ma bo al ou od2 hN hM hmb hma _ hk rfl hK hP hD hS hl (fun H1 locs1 ls1 hP hD hS hl => kk H1 locs1 ls1 (lq_mk r.up hP hD hS hl))
  | true =>
    by_cases hf : M = 30
    · exact lq_addMiner_full hl0 S hX hbl hbA hA hE hH hi hL hcs dC dI u v cI cZ cD cJ o o2 ki pl tu le ch ca N tk th hu od M tt be ho mt mb ma bo al ou od2 hN hM hmb hma _ hk hf rfl hK hP hD hS hl (fun H1 locs1 ls1 hP hD hS hl => kk H1 locs1 ls1 (lq_mk r.up hP hD hS hl))
    · have hf2 : M < 30 := by omega
      exact lq_addMiner_ok hl0 S hX hbl hbA hA hE hH hi hL hcs dC dI u v cI cZ cD cJ o o2 ki pl tu le ch ca N tk th hu od M tt be ho mt mb ma bo al ou od2 hN hM hmb hma _ hk hf2 rfl hK hP hD hS hl (fun H1 locs1 ls1 hP hD hS hl => W.widen (Nat.le_succ cells) (Nat.le_add_right slots 6) (kk H1 locs1 ls1 (lq_mk (r.addMiner hk hf2) hP hD hS hl)))

set_option maxHeartbeats 4000000 in
theorem lo_ready {p : Program} {l : Launch} {e : Env} {s : State} {m : MethodId} {args : Array Value} {below : List Frame} {meth : Method} {c : Code} {H : Heap} {locs : List Loc} {cells slots : Nat} {Q : State → Prop} {ls : Array Slot} {A : Nat → Prop} {sb L i : Nat} {xs : Nat → Int32} (hl0 : l.stackTraces = false) (S : CallFix p m c cL_law 9 s args wsL_law RL) (hX : va_X sb L xs s s.heap) (hbl : sb < s.heap.size) (hbA : ¬ A sb) (hA : ∀ q, s.heap.size ≤ q → A q) (hE : zx_E s) (hH : zx_H A s s.heap) (hi : 2 * i + 1 < L) (hL : L ≤ 1024) (hcs : cells + 1 ≤ room_1.cells ∧ slots + 6 ≤ room_1.slots) (dC : Nat → ClassId) (dI : Nat → Nat → Nat) (u v : Nat → Nat) (cI cZ cD cJ : ClassId) (o o2 : Nat) (hK : va_K (dC, dI) vwCl (zq_T4 cI cZ cD cJ) s) (hC : i < 512) (r : lq_I (dC, dI) A s u v cI cZ cD cJ o o2 sb i i H locs ls) (kk : ∀ (H1 : Heap) (locs1 : List Loc) (ls1 : Array Slot), lq_I (dC, dI) A s u v cI cZ cD cJ o o2 sb (i + 1) i H1 locs1 ls1 → W p l e room_1 s m args below meth c H1 locs1 (cells + 1) (slots + 6) Q (F0 m 1118 ls1 [])) : W p l e room_1 s m args below meth c H locs cells slots Q (F0 m 955 ls []) := by
  obtain ⟨ki, pl, tu, le, ch, ca, N, tk, th, hu, od, M, tt, be, ho, mt, mb, ma, bo, al, ou, od2, r, hP, hD, hS, hl⟩ := r
  have hN := r.hN
  have hM := r.hM
  have hmb := r.b30
  have hma := r.a60
  cases hk : in_b (xs (2 * i + 1)) 0 2 with
  | false => exact lq_ready_bad hl0 S hX hbl hbA hA hE hH hi hL hcs dC dI u v cI cZ cD cJ o o2 ki pl tu le ch ca N tk th hu od M tt be ho mt mb ma bo al ou od2 hN hM hmb hma _ hk rfl hK hP hD hS hl (fun H1 locs1 ls1 hP hD hS hl => kk H1 locs1 ls1 (lq_mk r.up hP hD hS hl))
  | true =>
    exact lq_ready_ok hl0 S hX hbl hbA hA hE hH hi hL hcs dC dI u v cI cZ cD cJ o o2 ki pl tu le ch ca N tk th hu od M tt be ho mt mb ma bo al ou od2 hN hM hmb hma _ hk rfl hK hP hD hS hl (fun H1 locs1 ls1 hP hD hS hl => W.widen (Nat.le_succ cells) (Nat.le_add_right slots 6) (kk H1 locs1 ls1 (lq_mk r.up hP hD hS hl)))

set_option maxHeartbeats 4000000 in
theorem lo_issue {p : Program} {l : Launch} {e : Env} {s : State} {m : MethodId} {args : Array Value} {below : List Frame} {meth : Method} {c : Code} {H : Heap} {locs : List Loc} {cells slots : Nat} {Q : State → Prop} {ls : Array Slot} {A : Nat → Prop} {sb L i : Nat} {xs : Nat → Int32} (hl0 : l.stackTraces = false) (S : CallFix p m c cL_law 9 s args wsL_law RL) (hX : va_X sb L xs s s.heap) (hbl : sb < s.heap.size) (hbA : ¬ A sb) (hA : ∀ q, s.heap.size ≤ q → A q) (hE : zx_E s) (hH : zx_H A s s.heap) (hi : 2 * i + 1 < L) (hL : L ≤ 1024) (hcs : cells + 1 ≤ room_1.cells ∧ slots + 6 ≤ room_1.slots) (dC : Nat → ClassId) (dI : Nat → Nat → Nat) (u v : Nat → Nat) (cI cZ cD cJ : ClassId) (o o2 : Nat) (hK : va_K (dC, dI) vwCl (zq_T4 cI cZ cD cJ) s) (hC : i < 512) (r : lq_I (dC, dI) A s u v cI cZ cD cJ o o2 sb i i H locs ls) (kk : ∀ (H1 : Heap) (locs1 : List Loc) (ls1 : Array Slot), lq_I (dC, dI) A s u v cI cZ cD cJ o o2 sb (i + 1) i H1 locs1 ls1 → W p l e room_1 s m args below meth c H1 locs1 (cells + 1) (slots + 6) Q (F0 m 1118 ls1 [])) : W p l e room_1 s m args below meth c H locs cells slots Q (F0 m 252 ls []) := by
  obtain ⟨ki, pl, tu, le, ch, ca, N, tk, th, hu, od, M, tt, be, ho, mt, mb, ma, bo, al, ou, od2, r, hP, hD, hS, hl⟩ := r
  have hN := r.hN
  have hM := r.hM
  have hmb := r.b30
  have hma := r.a60
  cases hb0 : in_b (xs (2 * i + 1)) 0 (nI M - 1) with
  | false => exact lq_issue_bad hl0 S hX hbl hbA hA hE hH hi hL hcs dC dI u v cI cZ cD cJ o o2 ki pl tu le ch ca N tk th hu od M tt be ho mt mb ma bo al ou od2 hN hM hmb hma _ hb0 rfl hK hP hD hS hl (fun H1 locs1 ls1 hP hD hS hl => kk H1 locs1 ls1 (lq_mk r.up hP hD hS hl))
  | true =>
    obtain ⟨mi, hm, hv⟩ := in_b_of (by omega) hb0
    by_cases hla : th mi = -1
    · obtain ⟨w, hw, hwa⟩ := r.htk mi hm
      rcases lq_best (ki := ki) (pl := pl) (ch := ch) (n := N) (3 - w) w with hb1 | ⟨j, hj, hb1⟩
      · exact lq_issue_none hl0 S hX hbl hbA hA hE hH hi hL hcs dC dI u v cI cZ cD cJ o o2 ki pl tu le ch ca N tk th hu od M tt be ho mt mb ma bo al ou od2 hN hM hmb hma mi hm hla w hw hwa hb1 hv hK hP hD hS hl (fun H1 locs1 ls1 hP hD hS hl => kk H1 locs1 ls1 (lq_mk r.up hP hD hS hl))
      · have R1 := r.issue (Nat.le_of_lt hC) hm hla hj
        exact lq_issue_ok hl0 S hX hbl hbA hA hE hH hi hL hcs dC dI u v cI cZ cD cJ o o2 ki pl tu le ch ca N tk th hu od M tt be ho mt mb ma bo al ou od2 hN hM hmb hma mi hm hla w hw hwa j hj hb1 R1.2 hv hK hP hD hS hl (fun H1 locs1 ls1 hP hD hS hl => by
      rw [nI_1] at hP hD
      exact W.widen (Nat.le_succ cells) (Nat.le_add_right slots 6) (kk H1 locs1 ls1 (lq_mk R1.1 hP hD hS hl)))
    · exact lq_issue_busy hl0 S hX hbl hbA hA hE hH hi hL hcs dC dI u v cI cZ cD cJ o o2 ki pl tu le ch ca N tk th hu od M tt be ho mt mb ma bo al ou od2 hN hM hmb hma mi hm hla hv hK hP hD hS hl (fun H1 locs1 ls1 hP hD hS hl => kk H1 locs1 ls1 (lq_mk r.up hP hD hS hl))

set_option maxHeartbeats 4000000 in
theorem lo_back {p : Program} {l : Launch} {e : Env} {s : State} {m : MethodId} {args : Array Value} {below : List Frame} {meth : Method} {c : Code} {H : Heap} {locs : List Loc} {cells slots : Nat} {Q : State → Prop} {ls : Array Slot} {A : Nat → Prop} {sb L i : Nat} {xs : Nat → Int32} (hl0 : l.stackTraces = false) (S : CallFix p m c cL_law 9 s args wsL_law RL) (hX : va_X sb L xs s s.heap) (hbl : sb < s.heap.size) (hbA : ¬ A sb) (hA : ∀ q, s.heap.size ≤ q → A q) (hE : zx_E s) (hH : zx_H A s s.heap) (hi : 2 * i + 1 < L) (hL : L ≤ 1024) (hcs : cells + 1 ≤ room_1.cells ∧ slots + 6 ≤ room_1.slots) (dC : Nat → ClassId) (dI : Nat → Nat → Nat) (u v : Nat → Nat) (cI cZ cD cJ : ClassId) (o o2 : Nat) (hK : va_K (dC, dI) vwCl (zq_T4 cI cZ cD cJ) s) (hC : i < 512) (r : lq_I (dC, dI) A s u v cI cZ cD cJ o o2 sb i i H locs ls) (kk : ∀ (H1 : Heap) (locs1 : List Loc) (ls1 : Array Slot), lq_I (dC, dI) A s u v cI cZ cD cJ o o2 sb (i + 1) i H1 locs1 ls1 → W p l e room_1 s m args below meth c H1 locs1 (cells + 1) (slots + 6) Q (F0 m 1118 ls1 [])) : W p l e room_1 s m args below meth c H locs cells slots Q (F0 m 308 ls []) := by
  obtain ⟨ki, pl, tu, le, ch, ca, N, tk, th, hu, od, M, tt, be, ho, mt, mb, ma, bo, al, ou, od2, r, hP, hD, hS, hl⟩ := r
  have hN := r.hN
  have hM := r.hM
  have hmb := r.b30
  have hma := r.a60
  cases hb0 : in_b (xs (2 * i + 1)) 0 (nI M - 1) with
  | false => exact lq_back_bad hl0 S hX hbl hbA hA hE hH hi hL hcs dC dI u v cI cZ cD cJ o o2 ki pl tu le ch ca N tk th hu od M tt be ho mt mb ma bo al ou od2 hN hM hmb hma _ hb0 rfl hK hP hD hS hl (fun H1 locs1 ls1 hP hD hS hl => kk H1 locs1 ls1 (lq_mk r.up hP hD hS hl))
  | true =>
    obtain ⟨mi, hm, hv⟩ := in_b_of (by omega) hb0
    by_cases hla : th mi = -1
    · exact lq_back_off hl0 S hX hbl hbA hA hE hH hi hL hcs dC dI u v cI cZ cD cJ o o2 ki pl tu le ch ca N tk th hu od M tt be ho mt mb ma bo al ou od2 hN hM hmb hma mi hm hla hv hK hP hD hS hl (fun H1 locs1 ls1 hP hD hS hl => kk H1 locs1 ls1 (lq_mk r.up hP hD hS hl))
    · obtain ⟨j, hj, ej⟩ := r.hth mi hm hla
      exact lq_back_ok hl0 S hX hbl hbA hA hE hH hi hL hcs dC dI u v cI cZ cD cJ o o2 ki pl tu le ch ca N tk th hu od M tt be ho mt mb ma bo al ou od2 hN hM hmb hma mi hm j hj ej (r.hca j (by omega)) hv hK hP hD hS hl (fun H1 locs1 ls1 hP hD hS hl => by
      rw [zr_le (r.hle j), zr_ch] at hP hD
      exact W.widen (Nat.le_succ cells) (Nat.le_add_right slots 6) (kk H1 locs1 ls1 (lq_mk (r.back hm hj) hP hD hS hl)))

set_option maxHeartbeats 4000000 in
theorem lo_test {p : Program} {l : Launch} {e : Env} {s : State} {m : MethodId} {args : Array Value} {below : List Frame} {meth : Method} {c : Code} {H : Heap} {locs : List Loc} {cells slots : Nat} {Q : State → Prop} {ls : Array Slot} {A : Nat → Prop} {sb L i : Nat} {xs : Nat → Int32} (hl0 : l.stackTraces = false) (S : CallFix p m c cL_law 9 s args wsL_law RL) (hX : va_X sb L xs s s.heap) (hbl : sb < s.heap.size) (hbA : ¬ A sb) (hA : ∀ q, s.heap.size ≤ q → A q) (hE : zx_E s) (hH : zx_H A s s.heap) (hi : 2 * i + 1 < L) (hL : L ≤ 1024) (hcs : cells + 1 ≤ room_1.cells ∧ slots + 6 ≤ room_1.slots) (dC : Nat → ClassId) (dI : Nat → Nat → Nat) (u v : Nat → Nat) (cI cZ cD cJ : ClassId) (o o2 : Nat) (hK : va_K (dC, dI) vwCl (zq_T4 cI cZ cD cJ) s) (hC : i < 512) (r : lq_I (dC, dI) A s u v cI cZ cD cJ o o2 sb i i H locs ls) (kk : ∀ (H1 : Heap) (locs1 : List Loc) (ls1 : Array Slot), lq_I (dC, dI) A s u v cI cZ cD cJ o o2 sb (i + 1) i H1 locs1 ls1 → W p l e room_1 s m args below meth c H1 locs1 (cells + 1) (slots + 6) Q (F0 m 1118 ls1 [])) : W p l e room_1 s m args below meth c H locs cells slots Q (F0 m 364 ls []) := by
  obtain ⟨ki, pl, tu, le, ch, ca, N, tk, th, hu, od, M, tt, be, ho, mt, mb, ma, bo, al, ou, od2, r, hP, hD, hS, hl⟩ := r
  have hN := r.hN
  have hM := r.hM
  have hmb := r.b30
  have hma := r.a60
  cases hb0 : in_b (xs (2 * i + 1)) 0 (nI N - 1) with
  | false => exact lq_test_bad hl0 S hX hbl hbA hA hE hH hi hL hcs dC dI u v cI cZ cD cJ o o2 ki pl tu le ch ca N tk th hu od M tt be ho mt mb ma bo al ou od2 hN hM hmb hma _ hb0 rfl hK hP hD hS hl (fun H1 locs1 ls1 hP hD hS hl => kk H1 locs1 ls1 (lq_mk r.up hP hD hS hl))
  | true =>
    obtain ⟨j, hj, hv⟩ := in_b_of (by omega) hb0
    by_cases hpl : pl j = 0
    · exact lq_test_ok hl0 S hX hbl hbA hA hE hH hi hL hcs dC dI u v cI cZ cD cJ o o2 ki pl tu le ch ca N tk th hu od M tt be ho mt mb ma bo al ou od2 hN hM hmb hma j hj hpl hv hK hP hD hS hl (fun H1 locs1 ls1 hP hD hS hl => by
      rw [zr_pl hpl] at hP hD
      exact W.widen (Nat.le_succ cells) (Nat.le_add_right slots 6) (kk H1 locs1 ls1 (lq_mk r.up hP hD hS hl)))
    · exact lq_test_off hl0 S hX hbl hbA hA hE hH hi hL hcs dC dI u v cI cZ cD cJ o o2 ki pl tu le ch ca N tk th hu od M tt be ho mt mb ma bo al ou od2 hN hM hmb hma j hj hpl hv hK hP hD hS hl (fun H1 locs1 ls1 hP hD hS hl => kk H1 locs1 ls1 (lq_mk r.up hP hD hS hl))

set_option maxHeartbeats 4000000 in
theorem lo_mend {p : Program} {l : Launch} {e : Env} {s : State} {m : MethodId} {args : Array Value} {below : List Frame} {meth : Method} {c : Code} {H : Heap} {locs : List Loc} {cells slots : Nat} {Q : State → Prop} {ls : Array Slot} {A : Nat → Prop} {sb L i : Nat} {xs : Nat → Int32} (hl0 : l.stackTraces = false) (S : CallFix p m c cL_law 9 s args wsL_law RL) (hX : va_X sb L xs s s.heap) (hbl : sb < s.heap.size) (hbA : ¬ A sb) (hA : ∀ q, s.heap.size ≤ q → A q) (hE : zx_E s) (hH : zx_H A s s.heap) (hi : 2 * i + 1 < L) (hL : L ≤ 1024) (hcs : cells + 1 ≤ room_1.cells ∧ slots + 6 ≤ room_1.slots) (dC : Nat → ClassId) (dI : Nat → Nat → Nat) (u v : Nat → Nat) (cI cZ cD cJ : ClassId) (o o2 : Nat) (hK : va_K (dC, dI) vwCl (zq_T4 cI cZ cD cJ) s) (hC : i < 512) (r : lq_I (dC, dI) A s u v cI cZ cD cJ o o2 sb i i H locs ls) (kk : ∀ (H1 : Heap) (locs1 : List Loc) (ls1 : Array Slot), lq_I (dC, dI) A s u v cI cZ cD cJ o o2 sb (i + 1) i H1 locs1 ls1 → W p l e room_1 s m args below meth c H1 locs1 (cells + 1) (slots + 6) Q (F0 m 1118 ls1 [])) : W p l e room_1 s m args below meth c H locs cells slots Q (F0 m 420 ls []) := by
  obtain ⟨ki, pl, tu, le, ch, ca, N, tk, th, hu, od, M, tt, be, ho, mt, mb, ma, bo, al, ou, od2, r, hP, hD, hS, hl⟩ := r
  have hN := r.hN
  have hM := r.hM
  have hmb := r.b30
  have hma := r.a60
  cases hb0 : in_b (xs (2 * i + 1)) 0 (nI N - 1) with
  | false => exact lq_mend_bad hl0 S hX hbl hbA hA hE hH hi hL hcs dC dI u v cI cZ cD cJ o o2 ki pl tu le ch ca N tk th hu od M tt be ho mt mb ma bo al ou od2 hN hM hmb hma _ hb0 rfl hK hP hD hS hl (fun H1 locs1 ls1 hP hD hS hl => kk H1 locs1 ls1 (lq_mk r.up hP hD hS hl))
  | true =>
    obtain ⟨j, hj, hv⟩ := in_b_of (by omega) hb0
    by_cases hpl : pl j = 2
    · exact lq_mend_ok hl0 S hX hbl hbA hA hE hH hi hL hcs dC dI u v cI cZ cD cJ o o2 ki pl tu le ch ca N tk th hu od M tt be ho mt mb ma bo al ou od2 hN hM hmb hma j hj hpl hv hK hP hD hS hl (fun H1 locs1 ls1 hP hD hS hl => W.widen (Nat.le_succ cells) (Nat.le_add_right slots 6) (kk H1 locs1 ls1 (lq_mk (r.mend j) hP hD hS hl)))
    · exact lq_mend_off hl0 S hX hbl hbA hA hE hH hi hL hcs dC dI u v cI cZ cD cJ o o2 ki pl tu le ch ca N tk th hu od M tt be ho mt mb ma bo al ou od2 hN hM hmb hma j hj hpl hv hK hP hD hS hl (fun H1 locs1 ls1 hP hD hS hl => kk H1 locs1 ls1 (lq_mk r.up hP hD hS hl))

set_option maxHeartbeats 4000000 in
theorem lo_hours {p : Program} {l : Launch} {e : Env} {s : State} {m : MethodId} {args : Array Value} {below : List Frame} {meth : Method} {c : Code} {H : Heap} {locs : List Loc} {cells slots : Nat} {Q : State → Prop} {ls : Array Slot} {A : Nat → Prop} {sb L i : Nat} {xs : Nat → Int32} (hl0 : l.stackTraces = false) (S : CallFix p m c cL_law 9 s args wsL_law RL) (hX : va_X sb L xs s s.heap) (hbl : sb < s.heap.size) (hbA : ¬ A sb) (hA : ∀ q, s.heap.size ≤ q → A q) (hE : zx_E s) (hH : zx_H A s s.heap) (hi : 2 * i + 1 < L) (hL : L ≤ 1024) (hcs : cells + 1 ≤ room_1.cells ∧ slots + 6 ≤ room_1.slots) (dC : Nat → ClassId) (dI : Nat → Nat → Nat) (u v : Nat → Nat) (cI cZ cD cJ : ClassId) (o o2 : Nat) (hK : va_K (dC, dI) vwCl (zq_T4 cI cZ cD cJ) s) (hC : i < 512) (r : lq_I (dC, dI) A s u v cI cZ cD cJ o o2 sb i i H locs ls) (kk : ∀ (H1 : Heap) (locs1 : List Loc) (ls1 : Array Slot), lq_I (dC, dI) A s u v cI cZ cD cJ o o2 sb (i + 1) i H1 locs1 ls1 → W p l e room_1 s m args below meth c H1 locs1 (cells + 1) (slots + 6) Q (F0 m 1118 ls1 [])) : W p l e room_1 s m args below meth c H locs cells slots Q (F0 m 483 ls []) := by
  obtain ⟨ki, pl, tu, le, ch, ca, N, tk, th, hu, od, M, tt, be, ho, mt, mb, ma, bo, al, ou, od2, r, hP, hD, hS, hl⟩ := r
  have hN := r.hN
  have hM := r.hM
  have hmb := r.b30
  have hma := r.a60
  cases hb0 : in_b (xs (2 * i + 1)) 1 100 with
  | false => exact lq_hours_bad hl0 S hX hbl hbA hA hE hH hi hL hcs dC dI u v cI cZ cD cJ o o2 ki pl tu le ch ca N tk th hu od M tt be ho mt mb ma bo al ou od2 hN hM hmb hma _ hb0 rfl hK hP hD hS hl (fun H1 locs1 ls1 hP hD hS hl => kk H1 locs1 ls1 (lq_mk r.up hP hD hS hl))
  | true =>
    obtain ⟨n, h1, h2, hv⟩ := in_b_hy hb0
    have K := r.hours (pl := pl) (hu := hu) (Nat.le_of_lt hC) h2
    exact lq_hours_ok hl0 S hX hbl hbA hA hE hH hi hL hcs dC dI u v cI cZ cD cJ o o2 ki pl tu le ch ca N tk th hu od M tt be ho mt mb ma bo al ou od2 hN hM hmb hma n h1 h2 r.hch r.hca r.hth (r.hok (Nat.le_of_lt hC) h2) hv (congrArg nI K.2.2.2.2) K.1.a60 hK hP hD hS hl (fun H1 locs1 ls1 hP hD hS hl => by
      rw [K.2.1, K.2.2.1, K.2.2.2.1] at hP hD
      exact W.widen (Nat.le_succ cells) (Nat.le_add_right slots 6) (kk H1 locs1 ls1 (lq_mk K.1 hP hD hS hl)))

set_option maxHeartbeats 4000000 in
theorem lo_lampOf {p : Program} {l : Launch} {e : Env} {s : State} {m : MethodId} {args : Array Value} {below : List Frame} {meth : Method} {c : Code} {H : Heap} {locs : List Loc} {cells slots : Nat} {Q : State → Prop} {ls : Array Slot} {A : Nat → Prop} {sb L i : Nat} {xs : Nat → Int32} (hl0 : l.stackTraces = false) (S : CallFix p m c cL_law 9 s args wsL_law RL) (hX : va_X sb L xs s s.heap) (hbl : sb < s.heap.size) (hbA : ¬ A sb) (hA : ∀ q, s.heap.size ≤ q → A q) (hE : zx_E s) (hH : zx_H A s s.heap) (hi : 2 * i + 1 < L) (hL : L ≤ 1024) (hcs : cells + 1 ≤ room_1.cells ∧ slots + 6 ≤ room_1.slots) (dC : Nat → ClassId) (dI : Nat → Nat → Nat) (u v : Nat → Nat) (cI cZ cD cJ : ClassId) (o o2 : Nat) (hK : va_K (dC, dI) vwCl (zq_T4 cI cZ cD cJ) s) (hC : i < 512) (r : lq_I (dC, dI) A s u v cI cZ cD cJ o o2 sb i i H locs ls) (kk : ∀ (H1 : Heap) (locs1 : List Loc) (ls1 : Array Slot), lq_I (dC, dI) A s u v cI cZ cD cJ o o2 sb (i + 1) i H1 locs1 ls1 → W p l e room_1 s m args below meth c H1 locs1 (cells + 1) (slots + 6) Q (F0 m 1118 ls1 [])) : W p l e room_1 s m args below meth c H locs cells slots Q (F0 m 577 ls []) := by
  obtain ⟨ki, pl, tu, le, ch, ca, N, tk, th, hu, od, M, tt, be, ho, mt, mb, ma, bo, al, ou, od2, r, hP, hD, hS, hl⟩ := r
  have hN := r.hN
  have hM := r.hM
  have hmb := r.b30
  have hma := r.a60
  cases hb0 : in_b (xs (2 * i + 1)) 0 (nI M - 1) with
  | false => exact lq_lampOf_bad hl0 S hX hbl hbA hA hE hH hi hL hcs dC dI u v cI cZ cD cJ o o2 ki pl tu le ch ca N tk th hu od M tt be ho mt mb ma bo al ou od2 hN hM hmb hma _ hb0 rfl hK hP hD hS hl (fun H1 locs1 ls1 hP hD hS hl => kk H1 locs1 ls1 (lq_mk r.up hP hD hS hl))
  | true =>
    obtain ⟨mi, hm, hv⟩ := in_b_of (by omega) hb0
    exact lq_lampOf_ok hl0 S hX hbl hbA hA hE hH hi hL hcs dC dI u v cI cZ cD cJ o o2 ki pl tu le ch ca N tk th hu od M tt be ho mt mb ma bo al ou od2 hN hM hmb hma mi hm hv hK hP hD hS hl (fun H1 locs1 ls1 hP hD hS hl => W.widen (Nat.le_succ cells) (Nat.le_add_right slots 6) (kk H1 locs1 ls1 (lq_mk r.up hP hD hS hl)))

set_option maxHeartbeats 4000000 in
theorem lo_hoursBelow {p : Program} {l : Launch} {e : Env} {s : State} {m : MethodId} {args : Array Value} {below : List Frame} {meth : Method} {c : Code} {H : Heap} {locs : List Loc} {cells slots : Nat} {Q : State → Prop} {ls : Array Slot} {A : Nat → Prop} {sb L i : Nat} {xs : Nat → Int32} (hl0 : l.stackTraces = false) (S : CallFix p m c cL_law 9 s args wsL_law RL) (hX : va_X sb L xs s s.heap) (hbl : sb < s.heap.size) (hbA : ¬ A sb) (hA : ∀ q, s.heap.size ≤ q → A q) (hE : zx_E s) (hH : zx_H A s s.heap) (hi : 2 * i + 1 < L) (hL : L ≤ 1024) (hcs : cells + 1 ≤ room_1.cells ∧ slots + 6 ≤ room_1.slots) (dC : Nat → ClassId) (dI : Nat → Nat → Nat) (u v : Nat → Nat) (cI cZ cD cJ : ClassId) (o o2 : Nat) (hK : va_K (dC, dI) vwCl (zq_T4 cI cZ cD cJ) s) (hC : i < 512) (r : lq_I (dC, dI) A s u v cI cZ cD cJ o o2 sb i i H locs ls) (kk : ∀ (H1 : Heap) (locs1 : List Loc) (ls1 : Array Slot), lq_I (dC, dI) A s u v cI cZ cD cJ o o2 sb (i + 1) i H1 locs1 ls1 → W p l e room_1 s m args below meth c H1 locs1 (cells + 1) (slots + 6) Q (F0 m 1118 ls1 [])) : W p l e room_1 s m args below meth c H locs cells slots Q (F0 m 633 ls []) := by
  obtain ⟨ki, pl, tu, le, ch, ca, N, tk, th, hu, od, M, tt, be, ho, mt, mb, ma, bo, al, ou, od2, r, hP, hD, hS, hl⟩ := r
  have hN := r.hN
  have hM := r.hM
  have hmb := r.b30
  have hma := r.a60
  cases hb0 : in_b (xs (2 * i + 1)) 0 (nI M - 1) with
  | false => exact lq_hoursBelow_bad hl0 S hX hbl hbA hA hE hH hi hL hcs dC dI u v cI cZ cD cJ o o2 ki pl tu le ch ca N tk th hu od M tt be ho mt mb ma bo al ou od2 hN hM hmb hma _ hb0 rfl hK hP hD hS hl (fun H1 locs1 ls1 hP hD hS hl => kk H1 locs1 ls1 (lq_mk r.up hP hD hS hl))
  | true =>
    obtain ⟨mi, hm, hv⟩ := in_b_of (by omega) hb0
    exact lq_hoursBelow_ok hl0 S hX hbl hbA hA hE hH hi hL hcs dC dI u v cI cZ cD cJ o o2 ki pl tu le ch ca N tk th hu od M tt be ho mt mb ma bo al ou od2 hN hM hmb hma mi hm hv hK hP hD hS hl (fun H1 locs1 ls1 hP hD hS hl => W.widen (Nat.le_succ cells) (Nat.le_add_right slots 6) (kk H1 locs1 ls1 (lq_mk r.up hP hD hS hl)))

set_option maxHeartbeats 4000000 in
theorem lo_lightLeft {p : Program} {l : Launch} {e : Env} {s : State} {m : MethodId} {args : Array Value} {below : List Frame} {meth : Method} {c : Code} {H : Heap} {locs : List Loc} {cells slots : Nat} {Q : State → Prop} {ls : Array Slot} {A : Nat → Prop} {sb L i : Nat} {xs : Nat → Int32} (hl0 : l.stackTraces = false) (S : CallFix p m c cL_law 9 s args wsL_law RL) (hX : va_X sb L xs s s.heap) (hbl : sb < s.heap.size) (hbA : ¬ A sb) (hA : ∀ q, s.heap.size ≤ q → A q) (hE : zx_E s) (hH : zx_H A s s.heap) (hi : 2 * i + 1 < L) (hL : L ≤ 1024) (hcs : cells + 1 ≤ room_1.cells ∧ slots + 6 ≤ room_1.slots) (dC : Nat → ClassId) (dI : Nat → Nat → Nat) (u v : Nat → Nat) (cI cZ cD cJ : ClassId) (o o2 : Nat) (hK : va_K (dC, dI) vwCl (zq_T4 cI cZ cD cJ) s) (hC : i < 512) (r : lq_I (dC, dI) A s u v cI cZ cD cJ o o2 sb i i H locs ls) (kk : ∀ (H1 : Heap) (locs1 : List Loc) (ls1 : Array Slot), lq_I (dC, dI) A s u v cI cZ cD cJ o o2 sb (i + 1) i H1 locs1 ls1 → W p l e room_1 s m args below meth c H1 locs1 (cells + 1) (slots + 6) Q (F0 m 1118 ls1 [])) : W p l e room_1 s m args below meth c H locs cells slots Q (F0 m 1049 ls []) := by
  obtain ⟨ki, pl, tu, le, ch, ca, N, tk, th, hu, od, M, tt, be, ho, mt, mb, ma, bo, al, ou, od2, r, hP, hD, hS, hl⟩ := r
  have hN := r.hN
  have hM := r.hM
  have hmb := r.b30
  have hma := r.a60
  cases hb0 : in_b (xs (2 * i + 1)) 0 (nI M - 1) with
  | false => exact lq_lightLeft_bad hl0 S hX hbl hbA hA hE hH hi hL hcs dC dI u v cI cZ cD cJ o o2 ki pl tu le ch ca N tk th hu od M tt be ho mt mb ma bo al ou od2 hN hM hmb hma _ hb0 rfl hK hP hD hS hl (fun H1 locs1 ls1 hP hD hS hl => kk H1 locs1 ls1 (lq_mk r.up hP hD hS hl))
  | true =>
    obtain ⟨mi, hm, hv⟩ := in_b_of (by omega) hb0
    by_cases hla : th mi = -1
    · exact lq_lightLeft_off hl0 S hX hbl hbA hA hE hH hi hL hcs dC dI u v cI cZ cD cJ o o2 ki pl tu le ch ca N tk th hu od M tt be ho mt mb ma bo al ou od2 hN hM hmb hma mi hm hla hv hK hP hD hS hl (fun H1 locs1 ls1 hP hD hS hl => W.widen (Nat.le_succ cells) (Nat.le_add_right slots 6) (kk H1 locs1 ls1 (lq_mk r.up hP hD hS hl)))
    · obtain ⟨j, hj, ej⟩ := r.hth mi hm hla
      exact lq_lightLeft_ok hl0 S hX hbl hbA hA hE hH hi hL hcs dC dI u v cI cZ cD cJ o o2 ki pl tu le ch ca N tk th hu od M tt be ho mt mb ma bo al ou od2 hN hM hmb hma mi hm j hj ej hv hK hP hD hS hl (fun H1 locs1 ls1 hP hD hS hl => W.widen (Nat.le_succ cells) (Nat.le_add_right slots 6) (kk H1 locs1 ls1 (lq_mk r.up hP hD hS hl)))

set_option maxHeartbeats 4000000 in
theorem lo_placeOf {p : Program} {l : Launch} {e : Env} {s : State} {m : MethodId} {args : Array Value} {below : List Frame} {meth : Method} {c : Code} {H : Heap} {locs : List Loc} {cells slots : Nat} {Q : State → Prop} {ls : Array Slot} {A : Nat → Prop} {sb L i : Nat} {xs : Nat → Int32} (hl0 : l.stackTraces = false) (S : CallFix p m c cL_law 9 s args wsL_law RL) (hX : va_X sb L xs s s.heap) (hbl : sb < s.heap.size) (hbA : ¬ A sb) (hA : ∀ q, s.heap.size ≤ q → A q) (hE : zx_E s) (hH : zx_H A s s.heap) (hi : 2 * i + 1 < L) (hL : L ≤ 1024) (hcs : cells + 1 ≤ room_1.cells ∧ slots + 6 ≤ room_1.slots) (dC : Nat → ClassId) (dI : Nat → Nat → Nat) (u v : Nat → Nat) (cI cZ cD cJ : ClassId) (o o2 : Nat) (hK : va_K (dC, dI) vwCl (zq_T4 cI cZ cD cJ) s) (hC : i < 512) (r : lq_I (dC, dI) A s u v cI cZ cD cJ o o2 sb i i H locs ls) (kk : ∀ (H1 : Heap) (locs1 : List Loc) (ls1 : Array Slot), lq_I (dC, dI) A s u v cI cZ cD cJ o o2 sb (i + 1) i H1 locs1 ls1 → W p l e room_1 s m args below meth c H1 locs1 (cells + 1) (slots + 6) Q (F0 m 1118 ls1 [])) : W p l e room_1 s m args below meth c H locs cells slots Q (F0 m 689 ls []) := by
  obtain ⟨ki, pl, tu, le, ch, ca, N, tk, th, hu, od, M, tt, be, ho, mt, mb, ma, bo, al, ou, od2, r, hP, hD, hS, hl⟩ := r
  have hN := r.hN
  have hM := r.hM
  have hmb := r.b30
  have hma := r.a60
  cases hb0 : in_b (xs (2 * i + 1)) 0 (nI N - 1) with
  | false => exact lq_placeOf_bad hl0 S hX hbl hbA hA hE hH hi hL hcs dC dI u v cI cZ cD cJ o o2 ki pl tu le ch ca N tk th hu od M tt be ho mt mb ma bo al ou od2 hN hM hmb hma _ hb0 rfl hK hP hD hS hl (fun H1 locs1 ls1 hP hD hS hl => kk H1 locs1 ls1 (lq_mk r.up hP hD hS hl))
  | true =>
    obtain ⟨j, hj, hv⟩ := in_b_of (by omega) hb0
    exact lq_placeOf_ok hl0 S hX hbl hbA hA hE hH hi hL hcs dC dI u v cI cZ cD cJ o o2 ki pl tu le ch ca N tk th hu od M tt be ho mt mb ma bo al ou od2 hN hM hmb hma j hj hv hK hP hD hS hl (fun H1 locs1 ls1 hP hD hS hl => W.widen (Nat.le_succ cells) (Nat.le_add_right slots 6) (kk H1 locs1 ls1 (lq_mk r.up hP hD hS hl)))

set_option maxHeartbeats 4000000 in
theorem lo_turnsOf {p : Program} {l : Launch} {e : Env} {s : State} {m : MethodId} {args : Array Value} {below : List Frame} {meth : Method} {c : Code} {H : Heap} {locs : List Loc} {cells slots : Nat} {Q : State → Prop} {ls : Array Slot} {A : Nat → Prop} {sb L i : Nat} {xs : Nat → Int32} (hl0 : l.stackTraces = false) (S : CallFix p m c cL_law 9 s args wsL_law RL) (hX : va_X sb L xs s s.heap) (hbl : sb < s.heap.size) (hbA : ¬ A sb) (hA : ∀ q, s.heap.size ≤ q → A q) (hE : zx_E s) (hH : zx_H A s s.heap) (hi : 2 * i + 1 < L) (hL : L ≤ 1024) (hcs : cells + 1 ≤ room_1.cells ∧ slots + 6 ≤ room_1.slots) (dC : Nat → ClassId) (dI : Nat → Nat → Nat) (u v : Nat → Nat) (cI cZ cD cJ : ClassId) (o o2 : Nat) (hK : va_K (dC, dI) vwCl (zq_T4 cI cZ cD cJ) s) (hC : i < 512) (r : lq_I (dC, dI) A s u v cI cZ cD cJ o o2 sb i i H locs ls) (kk : ∀ (H1 : Heap) (locs1 : List Loc) (ls1 : Array Slot), lq_I (dC, dI) A s u v cI cZ cD cJ o o2 sb (i + 1) i H1 locs1 ls1 → W p l e room_1 s m args below meth c H1 locs1 (cells + 1) (slots + 6) Q (F0 m 1118 ls1 [])) : W p l e room_1 s m args below meth c H locs cells slots Q (F0 m 899 ls []) := by
  obtain ⟨ki, pl, tu, le, ch, ca, N, tk, th, hu, od, M, tt, be, ho, mt, mb, ma, bo, al, ou, od2, r, hP, hD, hS, hl⟩ := r
  have hN := r.hN
  have hM := r.hM
  have hmb := r.b30
  have hma := r.a60
  cases hb0 : in_b (xs (2 * i + 1)) 0 (nI N - 1) with
  | false => exact lq_turnsOf_bad hl0 S hX hbl hbA hA hE hH hi hL hcs dC dI u v cI cZ cD cJ o o2 ki pl tu le ch ca N tk th hu od M tt be ho mt mb ma bo al ou od2 hN hM hmb hma _ hb0 rfl hK hP hD hS hl (fun H1 locs1 ls1 hP hD hS hl => kk H1 locs1 ls1 (lq_mk r.up hP hD hS hl))
  | true =>
    obtain ⟨j, hj, hv⟩ := in_b_of (by omega) hb0
    exact lq_turnsOf_ok hl0 S hX hbl hbA hA hE hH hi hL hcs dC dI u v cI cZ cD cJ o o2 ki pl tu le ch ca N tk th hu od M tt be ho mt mb ma bo al ou od2 hN hM hmb hma j hj hv hK hP hD hS hl (fun H1 locs1 ls1 hP hD hS hl => W.widen (Nat.le_succ cells) (Nat.le_add_right slots 6) (kk H1 locs1 ls1 (lq_mk r.up hP hD hS hl)))

set_option maxHeartbeats 4000000 in
theorem lo_chargeOf {p : Program} {l : Launch} {e : Env} {s : State} {m : MethodId} {args : Array Value} {below : List Frame} {meth : Method} {c : Code} {H : Heap} {locs : List Loc} {cells slots : Nat} {Q : State → Prop} {ls : Array Slot} {A : Nat → Prop} {sb L i : Nat} {xs : Nat → Int32} (hl0 : l.stackTraces = false) (S : CallFix p m c cL_law 9 s args wsL_law RL) (hX : va_X sb L xs s s.heap) (hbl : sb < s.heap.size) (hbA : ¬ A sb) (hA : ∀ q, s.heap.size ≤ q → A q) (hE : zx_E s) (hH : zx_H A s s.heap) (hi : 2 * i + 1 < L) (hL : L ≤ 1024) (hcs : cells + 1 ≤ room_1.cells ∧ slots + 6 ≤ room_1.slots) (dC : Nat → ClassId) (dI : Nat → Nat → Nat) (u v : Nat → Nat) (cI cZ cD cJ : ClassId) (o o2 : Nat) (hK : va_K (dC, dI) vwCl (zq_T4 cI cZ cD cJ) s) (hC : i < 512) (r : lq_I (dC, dI) A s u v cI cZ cD cJ o o2 sb i i H locs ls) (kk : ∀ (H1 : Heap) (locs1 : List Loc) (ls1 : Array Slot), lq_I (dC, dI) A s u v cI cZ cD cJ o o2 sb (i + 1) i H1 locs1 ls1 → W p l e room_1 s m args below meth c H1 locs1 (cells + 1) (slots + 6) Q (F0 m 1118 ls1 [])) : W p l e room_1 s m args below meth c H locs cells slots Q (F0 m 745 ls []) := by
  obtain ⟨ki, pl, tu, le, ch, ca, N, tk, th, hu, od, M, tt, be, ho, mt, mb, ma, bo, al, ou, od2, r, hP, hD, hS, hl⟩ := r
  have hN := r.hN
  have hM := r.hM
  have hmb := r.b30
  have hma := r.a60
  cases hb0 : in_b (xs (2 * i + 1)) 0 (nI N - 1) with
  | false => exact lq_chargeOf_bad hl0 S hX hbl hbA hA hE hH hi hL hcs dC dI u v cI cZ cD cJ o o2 ki pl tu le ch ca N tk th hu od M tt be ho mt mb ma bo al ou od2 hN hM hmb hma _ hb0 rfl hK hP hD hS hl (fun H1 locs1 ls1 hP hD hS hl => kk H1 locs1 ls1 (lq_mk r.up hP hD hS hl))
  | true =>
    obtain ⟨j, hj, hv⟩ := in_b_of (by omega) hb0
    exact lq_chargeOf_ok hl0 S hX hbl hbA hA hE hH hi hL hcs dC dI u v cI cZ cD cJ o o2 ki pl tu le ch ca N tk th hu od M tt be ho mt mb ma bo al ou od2 hN hM hmb hma j hj hv (r.hch j (by omega)) hK hP hD hS hl (fun H1 locs1 ls1 hP hD hS hl => W.widen (Nat.le_succ cells) (Nat.le_add_right slots 6) (kk H1 locs1 ls1 (lq_mk r.up hP hD hS hl)))

set_option maxHeartbeats 4000000 in
theorem lo_capacityOf {p : Program} {l : Launch} {e : Env} {s : State} {m : MethodId} {args : Array Value} {below : List Frame} {meth : Method} {c : Code} {H : Heap} {locs : List Loc} {cells slots : Nat} {Q : State → Prop} {ls : Array Slot} {A : Nat → Prop} {sb L i : Nat} {xs : Nat → Int32} (hl0 : l.stackTraces = false) (S : CallFix p m c cL_law 9 s args wsL_law RL) (hX : va_X sb L xs s s.heap) (hbl : sb < s.heap.size) (hbA : ¬ A sb) (hA : ∀ q, s.heap.size ≤ q → A q) (hE : zx_E s) (hH : zx_H A s s.heap) (hi : 2 * i + 1 < L) (hL : L ≤ 1024) (hcs : cells + 1 ≤ room_1.cells ∧ slots + 6 ≤ room_1.slots) (dC : Nat → ClassId) (dI : Nat → Nat → Nat) (u v : Nat → Nat) (cI cZ cD cJ : ClassId) (o o2 : Nat) (hK : va_K (dC, dI) vwCl (zq_T4 cI cZ cD cJ) s) (hC : i < 512) (r : lq_I (dC, dI) A s u v cI cZ cD cJ o o2 sb i i H locs ls) (kk : ∀ (H1 : Heap) (locs1 : List Loc) (ls1 : Array Slot), lq_I (dC, dI) A s u v cI cZ cD cJ o o2 sb (i + 1) i H1 locs1 ls1 → W p l e room_1 s m args below meth c H1 locs1 (cells + 1) (slots + 6) Q (F0 m 1118 ls1 [])) : W p l e room_1 s m args below meth c H locs cells slots Q (F0 m 822 ls []) := by
  obtain ⟨ki, pl, tu, le, ch, ca, N, tk, th, hu, od, M, tt, be, ho, mt, mb, ma, bo, al, ou, od2, r, hP, hD, hS, hl⟩ := r
  have hN := r.hN
  have hM := r.hM
  have hmb := r.b30
  have hma := r.a60
  cases hb0 : in_b (xs (2 * i + 1)) 0 (nI N - 1) with
  | false => exact lq_capacityOf_bad hl0 S hX hbl hbA hA hE hH hi hL hcs dC dI u v cI cZ cD cJ o o2 ki pl tu le ch ca N tk th hu od M tt be ho mt mb ma bo al ou od2 hN hM hmb hma _ hb0 rfl hK hP hD hS hl (fun H1 locs1 ls1 hP hD hS hl => kk H1 locs1 ls1 (lq_mk r.up hP hD hS hl))
  | true =>
    obtain ⟨j, hj, hv⟩ := in_b_of (by omega) hb0
    exact lq_capacityOf_ok hl0 S hX hbl hbA hA hE hH hi hL hcs dC dI u v cI cZ cD cJ o o2 ki pl tu le ch ca N tk th hu od M tt be ho mt mb ma bo al ou od2 hN hM hmb hma j hj hv (r.hca j (by omega)) hK hP hD hS hl (fun H1 locs1 ls1 hP hD hS hl => W.widen (Nat.le_succ cells) (Nat.le_add_right slots 6) (kk H1 locs1 ls1 (lq_mk r.up hP hD hS hl)))

set_option maxHeartbeats 4000000 in
theorem lo_below {p : Program} {l : Launch} {e : Env} {s : State} {m : MethodId} {args : Array Value} {below : List Frame} {meth : Method} {c : Code} {H : Heap} {locs : List Loc} {cells slots : Nat} {Q : State → Prop} {ls : Array Slot} {A : Nat → Prop} {sb L i : Nat} {xs : Nat → Int32} (hl0 : l.stackTraces = false) (S : CallFix p m c cL_law 9 s args wsL_law RL) (hX : va_X sb L xs s s.heap) (hbl : sb < s.heap.size) (hbA : ¬ A sb) (hA : ∀ q, s.heap.size ≤ q → A q) (hE : zx_E s) (hH : zx_H A s s.heap) (hi : 2 * i + 1 < L) (hL : L ≤ 1024) (hcs : cells + 1 ≤ room_1.cells ∧ slots + 6 ≤ room_1.slots) (dC : Nat → ClassId) (dI : Nat → Nat → Nat) (u v : Nat → Nat) (cI cZ cD cJ : ClassId) (o o2 : Nat) (hK : va_K (dC, dI) vwCl (zq_T4 cI cZ cD cJ) s) (hC : i < 512) (r : lq_I (dC, dI) A s u v cI cZ cD cJ o o2 sb i i H locs ls) (kk : ∀ (H1 : Heap) (locs1 : List Loc) (ls1 : Array Slot), lq_I (dC, dI) A s u v cI cZ cD cJ o o2 sb (i + 1) i H1 locs1 ls1 → W p l e room_1 s m args below meth c H1 locs1 (cells + 1) (slots + 6) Q (F0 m 1118 ls1 [])) : W p l e room_1 s m args below meth c H locs cells slots Q (F0 m 539 ls []) := by
  obtain ⟨ki, pl, tu, le, ch, ca, N, tk, th, hu, od, M, tt, be, ho, mt, mb, ma, bo, al, ou, od2, r, hP, hD, hS, hl⟩ := r
  have hN := r.hN
  have hM := r.hM
  have hmb := r.b30
  have hma := r.a60
  exact lq_below hl0 S hX hbl hbA hA hE hH hi hL hcs dC dI u v cI cZ cD cJ o o2 ki pl tu le ch ca N tk th hu od M tt be ho mt mb ma bo al ou od2 hN hM hmb hma (congrArg nI (zr_B_cnt r.hB)) hK hP hD hS hl (fun H1 locs1 ls1 hP hD hS hl => W.widen (Nat.le_succ cells) (Nat.le_add_right slots 6) (kk H1 locs1 ls1 (lq_mk r.up hP hD hS hl)))

set_option maxHeartbeats 4000000 in
theorem lo_spares {p : Program} {l : Launch} {e : Env} {s : State} {m : MethodId} {args : Array Value} {below : List Frame} {meth : Method} {c : Code} {H : Heap} {locs : List Loc} {cells slots : Nat} {Q : State → Prop} {ls : Array Slot} {A : Nat → Prop} {sb L i : Nat} {xs : Nat → Int32} (hl0 : l.stackTraces = false) (S : CallFix p m c cL_law 9 s args wsL_law RL) (hX : va_X sb L xs s s.heap) (hbl : sb < s.heap.size) (hbA : ¬ A sb) (hA : ∀ q, s.heap.size ≤ q → A q) (hE : zx_E s) (hH : zx_H A s s.heap) (hi : 2 * i + 1 < L) (hL : L ≤ 1024) (hcs : cells + 1 ≤ room_1.cells ∧ slots + 6 ≤ room_1.slots) (dC : Nat → ClassId) (dI : Nat → Nat → Nat) (u v : Nat → Nat) (cI cZ cD cJ : ClassId) (o o2 : Nat) (hK : va_K (dC, dI) vwCl (zq_T4 cI cZ cD cJ) s) (hC : i < 512) (r : lq_I (dC, dI) A s u v cI cZ cD cJ o o2 sb i i H locs ls) (kk : ∀ (H1 : Heap) (locs1 : List Loc) (ls1 : Array Slot), lq_I (dC, dI) A s u v cI cZ cD cJ o o2 sb (i + 1) i H1 locs1 ls1 → W p l e room_1 s m args below meth c H1 locs1 (cells + 1) (slots + 6) Q (F0 m 1118 ls1 [])) : W p l e room_1 s m args below meth c H locs cells slots Q (F0 m 1011 ls []) := by
  obtain ⟨ki, pl, tu, le, ch, ca, N, tk, th, hu, od, M, tt, be, ho, mt, mb, ma, bo, al, ou, od2, r, hP, hD, hS, hl⟩ := r
  have hN := r.hN
  have hM := r.hM
  have hmb := r.b30
  have hma := r.a60
  exact lq_spares hl0 S hX hbl hbA hA hE hH hi hL hcs dC dI u v cI cZ cD cJ o o2 ki pl tu le ch ca N tk th hu od M tt be ho mt mb ma bo al ou od2 hN hM hmb hma r.hth r.bos (congrArg nI (zr_B_sp r.hB hM)) hK hP hD hS hl (fun H1 locs1 ls1 hP hD hS hl => W.widen (Nat.le_succ cells) (Nat.le_add_right slots 6) (kk H1 locs1 ls1 (lq_mk r.up hP hD hS hl)))

set_option maxHeartbeats 4000000 in
theorem lo_rackCharge {p : Program} {l : Launch} {e : Env} {s : State} {m : MethodId} {args : Array Value} {below : List Frame} {meth : Method} {c : Code} {H : Heap} {locs : List Loc} {cells slots : Nat} {Q : State → Prop} {ls : Array Slot} {A : Nat → Prop} {sb L i : Nat} {xs : Nat → Int32} (hl0 : l.stackTraces = false) (S : CallFix p m c cL_law 9 s args wsL_law RL) (hX : va_X sb L xs s s.heap) (hbl : sb < s.heap.size) (hbA : ¬ A sb) (hA : ∀ q, s.heap.size ≤ q → A q) (hE : zx_E s) (hH : zx_H A s s.heap) (hi : 2 * i + 1 < L) (hL : L ≤ 1024) (hcs : cells + 1 ≤ room_1.cells ∧ slots + 6 ≤ room_1.slots) (dC : Nat → ClassId) (dI : Nat → Nat → Nat) (u v : Nat → Nat) (cI cZ cD cJ : ClassId) (o o2 : Nat) (hK : va_K (dC, dI) vwCl (zq_T4 cI cZ cD cJ) s) (hC : i < 512) (r : lq_I (dC, dI) A s u v cI cZ cD cJ o o2 sb i i H locs ls) (kk : ∀ (H1 : Heap) (locs1 : List Loc) (ls1 : Array Slot), lq_I (dC, dI) A s u v cI cZ cD cJ o o2 sb (i + 1) i H1 locs1 ls1 → W p l e room_1 s m args below meth c H1 locs1 (cells + 1) (slots + 6) Q (F0 m 1118 ls1 [])) : W p l e room_1 s m args below meth c H locs cells slots Q (F0 m 1105 ls []) := by
  obtain ⟨ki, pl, tu, le, ch, ca, N, tk, th, hu, od, M, tt, be, ho, mt, mb, ma, bo, al, ou, od2, r, hP, hD, hS, hl⟩ := r
  have hN := r.hN
  have hM := r.hM
  have hmb := r.b30
  have hma := r.a60
  exact lq_rackCharge hl0 S hX hbl hbA hA hE hH hi hL hcs dC dI u v cI cZ cD cJ o o2 ki pl tu le ch ca N tk th hu od M tt be ho mt mb ma bo al ou od2 hN hM hmb hma r.hch r.hca hK hP hD hS hl (fun H1 locs1 ls1 hP hD hS hl => W.widen (Nat.le_succ cells) (Nat.le_add_right slots 6) (kk H1 locs1 ls1 (lq_mk r.up hP hD hS hl)))

set_option maxHeartbeats 4000000 in
theorem lo_board {p : Program} {l : Launch} {e : Env} {s : State} {m : MethodId} {args : Array Value} {below : List Frame} {meth : Method} {c : Code} {H : Heap} {locs : List Loc} {cells slots : Nat} {Q : State → Prop} {ls : Array Slot} {A : Nat → Prop} {sb L i : Nat} {xs : Nat → Int32} (hl0 : l.stackTraces = false) (S : CallFix p m c cL_law 9 s args wsL_law RL) (hX : va_X sb L xs s s.heap) (hbl : sb < s.heap.size) (hbA : ¬ A sb) (hA : ∀ q, s.heap.size ≤ q → A q) (hE : zx_E s) (hH : zx_H A s s.heap) (hi : 2 * i + 1 < L) (hL : L ≤ 1024) (hcs : cells + 1 ≤ room_1.cells ∧ slots + 6 ≤ room_1.slots) (dC : Nat → ClassId) (dI : Nat → Nat → Nat) (u v : Nat → Nat) (cI cZ cD cJ : ClassId) (o o2 : Nat) (hK : va_K (dC, dI) vwCl (zq_T4 cI cZ cD cJ) s) (hC : i < 512) (r : lq_I (dC, dI) A s u v cI cZ cD cJ o o2 sb i i H locs ls) (kk : ∀ (H1 : Heap) (locs1 : List Loc) (ls1 : Array Slot), lq_I (dC, dI) A s u v cI cZ cD cJ o o2 sb (i + 1) i H1 locs1 ls1 → W p l e room_1 s m args below meth c H1 locs1 (cells + 1) (slots + 6) Q (F0 m 1118 ls1 [])) : W p l e room_1 s m args below meth c H locs cells slots Q (F0 m 552 ls []) := by
  obtain ⟨ki, pl, tu, le, ch, ca, N, tk, th, hu, od, M, tt, be, ho, mt, mb, ma, bo, al, ou, od2, r, hP, hD, hS, hl⟩ := r
  have hN := r.hN
  have hM := r.hM
  have hmb := r.b30
  have hma := r.a60
  cases hb0 : in_b (xs (2 * i + 1)) 0 (nI mb - 1) with
  | false => exact lq_board_none hl0 S hX hbl hbA hA hE hH hi hL hcs dC dI u v cI cZ cD cJ o o2 ki pl tu le ch ca N tk th hu od M tt be ho mt mb ma bo al ou od2 hN hM hmb hma _ hb0 rfl ((zr_B_pl r.hB hM).2 _ (fun i9 hi9 e9 => by rw [e9, in_b_ok hi9 (by omega)] at hb0; cases hb0)) hK hP hD hS hl (fun H1 locs1 ls1 hP hD hS hl => W.widen (Nat.le_succ cells) (Nat.le_add_right slots 6) (kk H1 locs1 ls1 (lq_mk r.up hP hD hS hl)))
  | true =>
    obtain ⟨i9, hi9, hv⟩ := in_b_of (by omega) hb0
    exact lq_board_ok hl0 S hX hbl hbA hA hE hH hi hL hcs dC dI u v cI cZ cD cJ o o2 ki pl tu le ch ca N tk th hu od M tt be ho mt mb ma bo al ou od2 hN hM hmb hma i9 hi9 hv ((zr_B_pl r.hB hM).1 i9 hi9) hK hP hD hS hl (fun H1 locs1 ls1 hP hD hS hl => W.widen (Nat.le_succ cells) (Nat.le_add_right slots 6) (kk H1 locs1 ls1 (lq_mk r.up hP hD hS hl)))

set_option maxHeartbeats 4000000 in
theorem lo_alarm {p : Program} {l : Launch} {e : Env} {s : State} {m : MethodId} {args : Array Value} {below : List Frame} {meth : Method} {c : Code} {H : Heap} {locs : List Loc} {cells slots : Nat} {Q : State → Prop} {ls : Array Slot} {A : Nat → Prop} {sb L i : Nat} {xs : Nat → Int32} (hl0 : l.stackTraces = false) (S : CallFix p m c cL_law 9 s args wsL_law RL) (hX : va_X sb L xs s s.heap) (hbl : sb < s.heap.size) (hbA : ¬ A sb) (hA : ∀ q, s.heap.size ≤ q → A q) (hE : zx_E s) (hH : zx_H A s s.heap) (hi : 2 * i + 1 < L) (hL : L ≤ 1024) (hcs : cells + 1 ≤ room_1.cells ∧ slots + 6 ≤ room_1.slots) (dC : Nat → ClassId) (dI : Nat → Nat → Nat) (u v : Nat → Nat) (cI cZ cD cJ : ClassId) (o o2 : Nat) (hK : va_K (dC, dI) vwCl (zq_T4 cI cZ cD cJ) s) (hC : i < 512) (r : lq_I (dC, dI) A s u v cI cZ cD cJ o o2 sb i i H locs ls) (kk : ∀ (H1 : Heap) (locs1 : List Loc) (ls1 : Array Slot), lq_I (dC, dI) A s u v cI cZ cD cJ o o2 sb (i + 1) i H1 locs1 ls1 → W p l e room_1 s m args below meth c H1 locs1 (cells + 1) (slots + 6) Q (F0 m 1118 ls1 [])) : W p l e room_1 s m args below meth c H locs cells slots Q (F0 m 1024 ls []) := by
  obtain ⟨ki, pl, tu, le, ch, ca, N, tk, th, hu, od, M, tt, be, ho, mt, mb, ma, bo, al, ou, od2, r, hP, hD, hS, hl⟩ := r
  have hN := r.hN
  have hM := r.hM
  have hmb := r.b30
  have hma := r.a60
  cases hb0 : in_b (xs (2 * i + 1)) 0 (nI ma - 1) with
  | false => exact lq_alarm_none hl0 S hX hbl hbA hA hE hH hi hL hcs dC dI u v cI cZ cD cJ o o2 ki pl tu le ch ca N tk th hu od M tt be ho mt mb ma bo al ou od2 hN hM hmb hma _ hb0 rfl ((zr_H_pl r.hA).2 _ (fun i9 hi9 e9 => by rw [e9, in_b_ok hi9 (by omega)] at hb0; cases hb0)) hK hP hD hS hl (fun H1 locs1 ls1 hP hD hS hl => W.widen (Nat.le_succ cells) (Nat.le_add_right slots 6) (kk H1 locs1 ls1 (lq_mk r.up hP hD hS hl)))
  | true =>
    obtain ⟨i9, hi9, hv⟩ := in_b_of (by omega) hb0
    exact lq_alarm_ok hl0 S hX hbl hbA hA hE hH hi hL hcs dC dI u v cI cZ cD cJ o o2 ki pl tu le ch ca N tk th hu od M tt be ho mt mb ma bo al ou od2 hN hM hmb hma i9 hi9 hv ((zr_H_pl r.hA).1 i9 hi9) hK hP hD hS hl (fun H1 locs1 ls1 hP hD hS hl => W.widen (Nat.le_succ cells) (Nat.le_add_right slots 6) (kk H1 locs1 ls1 (lq_mk r.up hP hD hS hl)))
