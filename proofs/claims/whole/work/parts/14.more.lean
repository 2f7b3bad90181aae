theorem zq_add0 (x : Int32) : x + 0 = x := Int32.add_zero x
theorem zq_vus {f : Nat → UInt64} {k : Nat} {x : UInt64} : vf_upd f k x k = x := by unfold vf_upd; rw [if_pos rfl]
theorem zq_le0 {a : Nat} (h : nI a ≤ 0) (ha : a < 2 ^ 31) : a = 0 := by
  have h1 : nI a ≤ nI 0 := h
  have h2 := (nI_leI ha (by decide)).mp h1
  omega
theorem zq_nle0 {a : Nat} (h : ¬ nI a ≤ 0) (ha : a < 2 ^ 31) : 0 < a := by
  rcases Nat.eq_zero_or_pos a with e | e
  · subst e
    exact absurd (show nI 0 ≤ 0 by decide +kernel) h
  · exact e
theorem zq_dec5 {u : Nat} (hu : u < 5) : nI (5 - u) + Int32.ofInt (-1) = nI (5 - (u + 1)) := by
  rw [show Int32.ofInt (-1) = (-1 : Int32) from rfl, sb_m1 (by omega), Nat.sub_sub]
theorem zb_nar (b : Bool) : narrow .boolean (.int (zb b)) = .int (zb b) := by cases b <;> rfl
theorem zq_nI1 : nI 1 = 1 := rfl
