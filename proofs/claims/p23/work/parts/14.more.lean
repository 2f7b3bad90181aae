theorem zq_add0 (x : Int32) : x + 0 = x := Int32.add_zero x
theorem zq_vus {f : Nat → UInt64} {k : Nat} {x : UInt64} : vf_upd f k x k = x := by unfold vf_upd; rw [if_pos rfl]
theorem zq_le0 {a : Nat} (h : nI a ≤ 0) (ha : a < 2 ^ 31) : a = 0 := by
  have h1 : nI a ≤ nI 0 := h
  have h2 := (nI_leI ha (by decide)).mp h1
  omega
theorem zq_nle0 {a : Nat} (h : ¬ nI a ≤ 0) (ha : a < 2 ^ 31) : 0 < a := by
  rcases Nat.eq_zero_or_pos a with e | e
  · subst e
    exact absurd (show nI 0 ≤ 0 by decide +kernel) h
  · exact e
theorem zq_dec5 {u : Nat} (hu : u < 5) : nI (5 - u) + Int32.ofInt (-1) = nI (5 - (u + 1)) := by
  rw [show Int32.ofInt (-1) = (-1 : Int32) from rfl, sb_m1 (by omega), Nat.sub_sub]
theorem zb_nar (b : Bool) : narrow .boolean (.int (zb b)) = .int (zb b) := by cases b <;> rfl
theorem zq_nI1 : nI 1 = 1 := rfl
section ZD
variable {p : Program} {l : Launch} {e : Env} {R : Room} {s : State} {m : MethodId} {args : Array Value} {below : List Frame} {meth : Method} {c : Code} {H : Heap} {locs : List Loc} {cells slots : Nat} {Q : State → Prop} {cc : ByteArray} {pc : Nat} {ls : Array Slot} {rest : List Value}
theorem zq_dconst0 (hexec : p.tables.exec = Jvm.exec) (hb : c.code = cc) (hdg : decode cc pc = .ok (.dconst 0, 1)) (k : W p l e R s m args below meth c H locs cells slots Q (F0 m (pc + 1) ls (.double 0 :: rest))) : W p l e R s m args below meth c H locs cells slots Q (F0 m pc ls rest) := lv_dconst0 hexec hb hdg k
theorem zq_dconst1 (hexec : p.tables.exec = Jvm.exec) (hb : c.code = cc) (hdg : decode cc pc = .ok (.dconst 1, 1)) (k : W p l e R s m args below meth c H locs cells slots Q (F0 m (pc + 1) ls (.double 4607182418800017408 :: rest))) : W p l e R s m args below meth c H locs cells slots Q (F0 m pc ls rest) := lv_dconst1 hexec hb hdg k
end ZD
