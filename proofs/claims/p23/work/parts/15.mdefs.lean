-- own words for the reference's loops
def in_b (v lo hi : Int32) : Bool := decide (¬ v < lo) && decide (¬ hi < v)
theorem in_b_ok {j n : Nat} (h : j < n) (hn : n < 2 ^ 31) : in_b (nI j) 0 (nI n - 1) = true := by
  obtain ⟨k, rfl⟩ : ∃ k, n = k + 1 := ⟨n - 1, by omega⟩
  rw [nI_pred]
  unfold in_b
  rw [Bool.and_eq_true]
  exact ⟨decide_eq_true (nI_pos (by omega)), decide_eq_true (nI_nlt (by omega) (by omega))⟩
theorem in_b_of {v : Int32} {n : Nat} (hn : n < 2 ^ 31) (h : in_b v 0 (nI n - 1) = true) : ∃ j, j < n ∧ v = nI j := by
  unfold in_b at h
  rw [Bool.and_eq_true] at h
  have h1 := of_decide_eq_true h.1
  have h2 := of_decide_eq_true h.2
  obtain ⟨j, hj, rfl⟩ := nI_of h1
  rcases Nat.eq_zero_or_pos n with e | e
  · subst e
    have h3 : nI 0 - 1 < nI j := by
      have h4 : (nI 0 - 1) < 0 := by decide +kernel
      have h5 : (0 : Int32) ≤ nI j := nI_pos' hj
      exact Int32.lt_of_lt_of_le h4 h5
    exact absurd h3 h2
  · obtain ⟨k, rfl⟩ : ∃ k, n = k + 1 := ⟨n - 1, by omega⟩
    rw [nI_pred] at h2
    refine ⟨j, ?_, rfl⟩
    have h3 : ¬ k < j := fun q => h2 ((nI_ltI (by omega) hj).mpr q)
    omega
theorem in_b_3 {v : Int32} (h : in_b v 0 2 = true) : ∃ j, j < 3 ∧ v = nI j := in_b_of (n := 3) (by decide) h
theorem nI_nm1 {j : Nat} (h : j < 2 ^ 31) : ¬ nI j = -1 := fun e => by
  have h1 := nI_pos h
  rw [e] at h1
  exact absurd (show (-1 : Int32) < 0 by decide +kernel) h1
/-- the best, class by class, as the reference goes on -/
def la_scan (ki pl : Nat → Int32) (ch : Nat → UInt64) (n w : Nat) : Nat → Int32
  | 0 => -1
  | t + 1 => if la_scan ki pl ch n w t = -1 then la_full ki pl ch (nI (w + t)) n else la_scan ki pl ch n w t
theorem la_scan_stop {ki pl : Nat → Int32} {ch : Nat → UInt64} {n w t : Nat} (h : ¬ la_scan ki pl ch n w t = -1) : ∀ k, la_scan ki pl ch n w (t + k) = la_scan ki pl ch n w t
  | 0 => rfl
  | k + 1 => by
    rw [show t + (k + 1) = (t + k) + 1 by omega, la_scan, la_scan_stop h k, if_neg h]
theorem la_scan_best {ki pl : Nat → Int32} {ch : Nat → UInt64} {n w : Nat} : ∀ (f t : Nat), la_scan ki pl ch n w t = -1 → la_scan ki pl ch n w (t + f) = la_best ki pl ch n f (w + t)
  | 0, t, h => h
  | f + 1, t, h => by
    have e : la_scan ki pl ch n w (t + 1) = la_full ki pl ch (nI (w + t)) n := by rw [la_scan, if_pos h]
    rw [la_best]
    by_cases g : la_full ki pl ch (nI (w + t)) n = -1
    · rw [if_pos g, show t + (f + 1) = (t + 1) + f by omega, la_scan_best f (t + 1) (e.trans g)]
      rfl
    · rw [if_neg g, show t + (f + 1) = (t + 1) + f by omega, la_scan_stop (by rw [e]; exact g), e]
theorem la_scan_0 {ki pl : Nat → Int32} {ch : Nat → UInt64} {n w f : Nat} : la_scan ki pl ch n w f = la_best ki pl ch n f w := by
  have h := la_scan_best (ki := ki) (pl := pl) (ch := ch) (n := n) (w := w) f 0 rfl
  rw [Nat.zero_add] at h
  exact h
/-- a row without those that are not kept, its length so far -/
def cp_k (keep : Int32 → Bool) (f : Nat → Int32) : Nat → (Nat → Int32) × Nat
  | 0 => (f, 0)
  | i + 1 => (upd (cp_k keep f i).1 (cp_k keep f i).2 ((cp_k keep f i).1 i), if keep (upd (cp_k keep f i).1 (cp_k keep f i).2 ((cp_k keep f i).1 i) i) = true then (cp_k keep f i).2 + 1 else (cp_k keep f i).2)
theorem cp_le (keep : Int32 → Bool) (f : Nat → Int32) : ∀ i, (cp_k keep f i).2 ≤ i
  | 0 => Nat.le_refl 0
  | i + 1 => by
    have h := cp_le keep f i
    rw [cp_k]
    dsimp only
    split
    · exact Nat.succ_le_succ h
    · exact Nat.le_succ_of_le h
def cp_1 (m : Nat) (v : Int32) : Bool := decide (¬ v = nI m)
def cp_2 (m : Nat) (v : Int32) : Bool := decide (¬ v / 2 = nI m)
def al_has (al : Nat → Int32) (x : Int32) : Nat → Bool
  | 0 => false
  | i + 1 => al_has al x i || decide (al i = x)
def bg_n (B h : Bool) : Nat := if B = true ∧ h = false then 1 else 0
def bg_a (B h : Bool) (al : Nat → Int32) (n : Nat) (x : Int32) : Nat → Int32 := if B = true ∧ h = false then upd al n x else al
def la_dk (x : UInt64) : Bool := decide (Op.cmpValue (FP.dcmp x 0) CmpOp.l = 0)
def la_lt9 (h s : Int32) : Bool := decide (¬ h - s ≤ 9)
/-- the alarms that begin in an hour, miner by miner: the row, its length, how many began -/
def gb_L (la si : Nat → Int32) (h : Int32) (p : (Nat → Int32) × Nat × Nat) (m : Nat) : (Nat → Int32) × Nat × Nat :=
  (bg_a (la_lt9 h (si m)) (al_has p.1 (nI (2 * m)) p.2.1) p.1 p.2.1 (nI (2 * m)), p.2.1 + bg_n (la_lt9 h (si m)) (al_has p.1 (nI (2 * m)) p.2.1), p.2.2 + bg_n (la_lt9 h (si m)) (al_has p.1 (nI (2 * m)) p.2.1))
def gb_D (la : Nat → Int32) (ch : Nat → UInt64) (p : (Nat → Int32) × Nat × Nat) (m : Nat) : (Nat → Int32) × Nat × Nat :=
  (bg_a (la_dk (ch (la m).toNatClampNeg)) (al_has p.1 (nI (2 * m + 1)) p.2.1) p.1 p.2.1 (nI (2 * m + 1)), p.2.1 + bg_n (la_dk (ch (la m).toNatClampNeg)) (al_has p.1 (nI (2 * m + 1)) p.2.1), p.2.2 + bg_n (la_dk (ch (la m).toNatClampNeg)) (al_has p.1 (nI (2 * m + 1)) p.2.1))
def gb_k (la si : Nat → Int32) (ch : Nat → UInt64) (h : Int32) (al : Nat → Int32) (n : Nat) : Nat → (Nat → Int32) × Nat × Nat
  | 0 => (al, n, 0)
  | m + 1 => if la m = -1 then gb_k la si ch h al n m else gb_D la ch (gb_L la si h (gb_k la si ch h al n m) m) m
/-- the spare lamps, board place by board place -/
def sp_b (ki la wa bo : Nat → Int32) (i : Nat) : Bool := decide (¬ ki (la (bo i).toNatClampNeg).toNatClampNeg ≤ wa (bo i).toNatClampNeg)
/-- the reference's sums -/
def la_smm (pl : Nat → Int32) (f : Nat → UInt64) : Nat → UInt64
  | 0 => 0
  | j + 1 => FP.dadd (la_smm pl f j) (if pl j = 0 then f j else 0)
theorem la_smm_eq {pl : Nat → Int32} {f : Nat → UInt64} {n : Nat} (h : ∀ i, i < n → zn_p (f i)) (hn : n ≤ 40) : ∀ j, j ≤ n → la_smm pl f j = la_sum pl f j
  | 0, _ => rfl
  | j + 1, hj => by
    rw [la_smm, la_sum, la_smm_eq h hn j (by omega)]
    by_cases g : pl j = 0
    · rw [if_pos g, if_pos g]
    · rw [if_neg g, if_neg g]
      exact zn_add0 (Nat.le_of_lt (zn_K_le (zn_sum h hn j (by omega)) (by omega)))
def la_rc (c k : UInt64) : Int32 := if la_gt k 0 = true then FP.d2i (FP.dmul (FP.ddiv c k) 4636737291354636288) else 0
theorem zn_divn {c k : UInt64} {K : Nat} (hc : zn_K K c) (hk : zn_K K k) (hK : K ≤ 2047) (h : ¬ k.toNat = 0) : fz_n (FP.ddiv c k) ∧ fz_n (FP.dmul (FP.ddiv c k) 4636737291354636288) := by
  have h1 := zn_K_le hc hK
  have h2 := zn_K_le hk hK
  have n1 : FP.Core.dIsNaN (FP.Core.ddiv c k) = false := FP.Core.ddiv_out ((FP.Core.notNaN_iff c).mpr (fz_ne (Nat.le_of_lt h1))) (zn_K_fin hk hK) (by
    rw [FP.Core.zero_bits2, Nat.mod_eq_of_lt (by omega)]
    exact h)
  have n2 : FP.Core.dIsNaN (FP.Core.dmul (FP.Core.ddiv c k) 4636737291354636288) = false := FP.Core.dmul_out' n1 (by rw [FP.Core.fin_bits]; decide) (by rw [FP.Core.zero_bits2]; decide)
  exact ⟨(FP.Core.notNaN_iff _).mp n1, (FP.Core.notNaN_iff _).mp n2⟩
theorem fz_gt0 {k : UInt64} (h : k.toNat ≤ 9218868437227405312) : la_gt k 0 = true ↔ ¬ k.toNat = 0 := by
  rw [fz_gt (fz_ne h) (fz_ne (by decide)), fz_lt_bits (by decide) h]
  show 0 < k.toNat ↔ _
  omega
theorem fz_eq0 {k : UInt64} (h : k.toNat ≤ 9218868437227405312) : la_dk k = true ↔ k.toNat = 0 := by
  unfold la_dk
  have n1 := fz_ne h
  have n2 : fz_n 0 := fz_ne (by decide)
  have e1 := fz_lt_bits (x := k) (y := 0) h (by decide)
  have e2 := fz_lt_bits (x := 0) (y := k) (by decide) h
  have e3 : (0 : UInt64).toNat = 0 := rfl
  rcases fz_cmp3 n1 n2 with ⟨g, e⟩ | ⟨g, e⟩ | ⟨g, e⟩
  · have := e1.mp g; omega
  · rw [e]
    refine iff_of_true (by decide +kernel) ?_
    refine Nat.eq_zero_of_not_pos (fun q => ?_)
    have := e2.mpr (by omega)
    omega
  · rw [e]
    refine iff_of_false (by decide +kernel) ?_
    have := e2.mp g
    omega
theorem zn_smm {pl : Nat → Int32} {f : Nat → UInt64} {n : Nat} (h : ∀ i, i < n → zn_p (f i)) (hn : n ≤ 40) {j : Nat} (hj : j < n) : vf_n64 (FP.dadd (la_smm pl f j) (f j)) ∧ vf_n64 (FP.dadd (la_smm pl f j) 0) := by
  rw [la_smm_eq h hn j (by omega)]
  refine ⟨zn_sum_n h hn hj, ?_⟩
  have h1 := zn_K_le (zn_sum (pl := pl) h hn j (by omega)) (by omega)
  rw [zn_add0 (Nat.le_of_lt h1)]
  exact zn_of_ne (fz_ne (Nat.le_of_lt h1))
/-- the charges an hour later -/
def la_hr (pl le : Nat → Int32) (ch ca : Nat → UInt64) (n : Nat) : Nat → UInt64 := (la_lo pl (la_burn pl le ch n) ca n).1
/-- there is room for the alarms that begin -/
def gb_ok (la si : Nat → Int32) (ch : Nat → UInt64) (h : Int32) (al : Nat → Int32) (n M : Nat) : Prop := ∀ mi, mi < M → ¬ la mi = -1 →
  (la_lt9 h (si mi) = true → al_has (gb_k la si ch h al n mi).1 (nI (2 * mi)) (gb_k la si ch h al n mi).2.1 = false → (gb_k la si ch h al n mi).2.1 < 60) ∧
  (la_dk (ch (la mi).toNatClampNeg) = true → al_has (gb_L la si h (gb_k la si ch h al n mi) mi).1 (nI (2 * mi + 1)) (gb_L la si h (gb_k la si ch h al n mi) mi).2.1 = false → (gb_L la si h (gb_k la si ch h al n mi) mi).2.1 < 60) ∧
  (gb_k la si ch h al n mi).2.1 ≤ 60 ∧ (gb_L la si h (gb_k la si ch h al n mi) mi).2.1 ≤ 60
