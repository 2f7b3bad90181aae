-- hour by hour
def mo_k (pl le : Nat → Int32) (ca : Nat → UInt64) (la si : Nat → Int32) (N M : Nat) (ch : Nat → UInt64) (mh : Int32) (al : Nat → Int32) (ma : Nat) : Nat → ((Nat → UInt64) × Int32) × ((Nat → Int32) × Nat) × Nat
  | 0 => ((ch, mh), (al, ma), 0)
  | t + 1 => ((la_hr pl le (mo_k pl le ca la si N M ch mh al ma t).1.1 ca N, (mo_k pl le ca la si N M ch mh al ma t).1.2 + 1),
      ((gb_k la si (la_hr pl le (mo_k pl le ca la si N M ch mh al ma t).1.1 ca N) ((mo_k pl le ca la si N M ch mh al ma t).1.2 + 1) (mo_k pl le ca la si N M ch mh al ma t).2.1.1 (mo_k pl le ca la si N M ch mh al ma t).2.1.2 M).1,
       (gb_k la si (la_hr pl le (mo_k pl le ca la si N M ch mh al ma t).1.1 ca N) ((mo_k pl le ca la si N M ch mh al ma t).1.2 + 1) (mo_k pl le ca la si N M ch mh al ma t).2.1.1 (mo_k pl le ca la si N M ch mh al ma t).2.1.2 M).2.1),
      (mo_k pl le ca la si N M ch mh al ma t).2.2 + (gb_k la si (la_hr pl le (mo_k pl le ca la si N M ch mh al ma t).1.1 ca N) ((mo_k pl le ca la si N M ch mh al ma t).1.2 + 1) (mo_k pl le ca la si N M ch mh al ma t).2.1.1 (mo_k pl le ca la si N M ch mh al ma t).2.1.2 M).2.2)
def ho_k (pl le : Nat → Int32) (ca : Nat → UInt64) (th hu : Nat → Int32) (N M : Nat) (ch : Nat → UInt64) (clk : Int32) (be : Nat → Int32) : Nat → ((Nat → UInt64) × Int32) × (Nat → Int32) × Nat
  | 0 => ((ch, clk), be, 0)
  | t + 1 => ((la_hr pl le (ho_k pl le ca th hu N M ch clk be t).1.1 ca N, (ho_k pl le ca th hu N M ch clk be t).1.2 + 1),
      (pb_k th hu (la_hr pl le (ho_k pl le ca th hu N M ch clk be t).1.1 ca N) (ho_k pl le ca th hu N M ch clk be t).2.1 ((ho_k pl le ca th hu N M ch clk be t).1.2 + 1) M).1,
      (ho_k pl le ca th hu N M ch clk be t).2.2 + (pb_k th hu (la_hr pl le (ho_k pl le ca th hu N M ch clk be t).1.1 ca N) (ho_k pl le ca th hu N M ch clk be t).2.1 ((ho_k pl le ca th hu N M ch clk be t).1.2 + 1) M).2)
theorem zn_hr {pl le : Nat → Int32} {ch ca : Nat → UInt64} {n N : Nat} (h : ∀ i, i < n → zn_p (ch i)) (hc : ∀ i, i < n → zn_p (ca i)) (i : Nat) (hi : i < n) : zn_p (la_hr pl le ch ca N i) :=
  zn_lo (fun u hu => zn_burn h N u hu) hc N i hi
theorem zn_mo {pl le : Nat → Int32} {ca : Nat → UInt64} {la si : Nat → Int32} {N M : Nat} {ch : Nat → UInt64} {mh : Int32} {al : Nat → Int32} {ma n : Nat} (h : ∀ i, i < n → zn_p (ch i)) (hc : ∀ i, i < n → zn_p (ca i)) : ∀ t i, i < n → zn_p ((mo_k pl le ca la si N M ch mh al ma t).1.1 i)
  | 0, i, hi => h i hi
  | t + 1, i, hi => by
    rw [mo_k]
    exact zn_hr (zn_mo h hc t) hc i hi
theorem zn_ho {pl le : Nat → Int32} {ca : Nat → UInt64} {th hu : Nat → Int32} {N M : Nat} {ch : Nat → UInt64} {clk : Int32} {be : Nat → Int32} {n : Nat} (h : ∀ i, i < n → zn_p (ch i)) (hc : ∀ i, i < n → zn_p (ca i)) : ∀ t i, i < n → zn_p ((ho_k pl le ca th hu N M ch clk be t).1.1 i)
  | 0, i, hi => h i hi
  | t + 1, i, hi => by
    rw [ho_k]
    exact zn_hr (zn_ho h hc t) hc i hi
theorem in_b_h {n : Nat} (h1 : 1 ≤ n) (h2 : n ≤ 100) : in_b (nI n) 1 100 = true := by
  unfold in_b
  rw [Bool.and_eq_true]
  exact ⟨decide_eq_true (fun q => absurd ((nI_ltI (a := n) (b := 1) (by omega) (by decide)).mp q) (by omega)), decide_eq_true (fun q => absurd ((nI_ltI (a := 100) (b := n) (by decide) (by omega)).mp q) (by omega))⟩
theorem in_b_hn {x : Int32} (h : in_b x 1 100 = false) : x < 1 ∨ ¬ x ≤ 100 := by
  by_cases h1 : x < 1
  · exact Or.inl h1
  · refine Or.inr (fun h2 => ?_)
    unfold in_b at h
    rw [decide_eq_true h1, Bool.true_and] at h
    have h3 := of_decide_eq_false h
    exact h3 (Int32.not_lt.mpr h2)
theorem in_b_hy {x : Int32} (h : in_b x 1 100 = true) : ∃ n, 1 ≤ n ∧ n ≤ 100 ∧ x = nI n := by
  unfold in_b at h
  rw [Bool.and_eq_true] at h
  have h1 := of_decide_eq_true h.1
  have h2 := of_decide_eq_true h.2
  have h3 : ¬ x < 0 := fun q => h1 (Int32.lt_of_lt_of_le q (by decide +kernel))
  obtain ⟨j, hj, rfl⟩ := nI_of h3
  refine ⟨j, ?_, ?_, rfl⟩
  · exact Nat.not_lt.mp (fun q => h1 ((nI_ltI (a := j) (b := 1) hj (by decide)).mpr q))
  · exact Nat.not_lt.mp (fun q => h2 ((nI_ltI (a := 100) (b := j) (by decide) hj).mpr q))
