/-! small things -/
theorem zw_top {n : Nat} (h : n < 2 ^ 31) : in_b (nI n) 0 (nI n - 1) = false := by
  cases h9 : in_b (nI n) 0 (nI n - 1) with
  | false => rfl
  | true =>
    obtain ⟨j, hj, e⟩ := in_b_of h h9
    exact absurd ((nI_eq h (by omega)).mp e) (by omega)
theorem zw_m1 {x : Int32} : in_b (-1) 0 x = false := by
  unfold in_b
  rw [show decide (¬ (-1 : Int32) < 0) = false by decide +kernel]
  rfl
theorem zw_find {hit : Nat → Bool} (n : Nat) (h : ∀ j, j < n → hit j = false) : zf_find hit n 0 = -1 := by
  have K : ∀ (f s : Nat), s + f = n → zf_find hit f s = -1 := by
    intro f
    induction f with
    | zero => exact fun _ _ => rfl
    | succ f ih =>
      intro s hs
      rw [zf_find, if_neg (by rw [h s (by omega)]; decide)]
      exact ih (s + 1) (by omega)
  exact K n 0 (by omega)
theorem zw_cnt0 {q : Nat → Bool} : ∀ n, (∀ j, j < n → q j = false) → zf_cnt q n = 0
  | 0, _ => rfl
  | n + 1, h => by
    rw [zf_cnt_f (h n (by omega))]
    exact zw_cnt0 n (fun j hj => h j (by omega))
theorem zw_cntn {q : Nat → Bool} : ∀ n, (∀ j, j < n → q j = true) → zf_cnt q n = n
  | 0, _ => rfl
  | n + 1, h => by
    rw [zf_cnt_t (h n (by omega)), zw_cntn n (fun j hj => h j (by omega))]
theorem zw_B20 : zn_p 4626322717216342016 := by
  unfold zn_p
  decide
abbrev zh (n : Nat) : UInt64 := la_sum (fun _ => 0) (fun _ => 4626322717216342016) n
theorem zh_s {n : Nat} : zh (n + 1) = FP.dadd (zh n) 4626322717216342016 := by
  show la_sum _ _ (n + 1) = _
  rw [la_sum, if_pos rfl]
theorem zw_sum {pl : Nat → Int32} {f : Nat → UInt64} : ∀ n, (∀ i, i < n → pl i = 0) → (∀ i, i < n → f i = 4626322717216342016) → la_sum pl f n = zh n
  | 0, _, _ => rfl
  | n + 1, h1, h2 => by
    rw [la_sum, if_pos (h1 n (by omega)), h2 n (by omega), zw_sum n (fun i hi => h1 i (by omega)) (fun i hi => h2 i (by omega)), zh_s]
def zush (v : Int32) : Int32 := (v.toUInt32 >>> ((1 : Int32).toUInt32 &&& Int32.toUInt32 31)).toInt32
def zlow (v n : Int32) : Int32 := zush v - zush v / n * n
