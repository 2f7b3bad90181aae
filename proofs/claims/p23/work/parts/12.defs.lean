/-! own words: what the loops work out, by numbers of turns -/
def zb (b : Bool) : Int32 := if b = true then 1 else 0
theorem zb_eq {b : Bool} (h : zb b = 0) : b = false := by cases b with | false => rfl | true => exact absurd h (by decide)
theorem zb_ne {b : Bool} (h : ¬ zb b = 0) : b = true := by cases b with | true => rfl | false => exact absurd rfl h
theorem zb_1 {b : Bool} (h : b = true) : (1 : Int32) = zb b := by rw [h]; rfl
theorem zb_0 {b : Bool} (h : b = false) : (0 : Int32) = zb b := by rw [h]; rfl
/-- the first hit from j on, f places looked at; -1 without one -/
def zf_find (hit : Nat → Bool) : Nat → Nat → Int32
  | 0, _ => -1
  | f + 1, j => if hit j = true then nI j else zf_find hit f (j + 1)
theorem zf_hit {hit : Nat → Bool} {n i : Nat} (h : i < n) (hh : hit i = true) : zf_find hit (n - i) i = nI i := by
  rw [show n - i = (n - (i + 1)) + 1 by omega, zf_find, if_pos hh]
theorem zf_miss {hit : Nat → Bool} {n i : Nat} (h : i < n) (hh : hit i = false) : zf_find hit (n - i) i = zf_find hit (n - (i + 1)) (i + 1) := by
  rw [show n - i = (n - (i + 1)) + 1 by omega, zf_find, if_neg (by rw [hh]; decide)]
theorem zf_end {hit : Nat → Bool} {n i : Nat} (h : n ≤ i) : zf_find hit (n - i) i = -1 := by
  rw [show n - i = 0 by omega, zf_find]
/-- how many of the first n -/
def zf_cnt (p : Nat → Bool) : Nat → Nat
  | 0 => 0
  | n + 1 => if p n = true then zf_cnt p n + 1 else zf_cnt p n
theorem zf_cnt_le (p : Nat → Bool) : ∀ n, zf_cnt p n ≤ n
  | 0 => Nat.le_refl 0
  | n + 1 => by
    have h := zf_cnt_le p n
    rw [zf_cnt]
    split <;> omega
theorem zf_cnt_t {p : Nat → Bool} {n : Nat} (h : p n = true) : zf_cnt p (n + 1) = zf_cnt p n + 1 := by rw [zf_cnt, if_pos h]
theorem zf_cnt_f {p : Nat → Bool} {n : Nat} (h : p n = false) : zf_cnt p (n + 1) = zf_cnt p n := by rw [zf_cnt, if_neg (by rw [h]; decide)]
-- alarms
def al_ah (be : Nat → Int32) (o k : Nat) : Bool := decide (be o < be k) || (decide (be o = be k) && decide (o < k))
def al_p (be : Nat → Int32) (k o : Nat) : Bool := decide (¬ be o = 0) && al_ah be o k
def al_hit (be : Nat → Int32) (pl : Int32) (k : Nat) : Bool := decide (¬ be k = 0) && decide (nI (zf_cnt (al_p be k) 60) = pl)
-- lamps
def la_gt (x y : UInt64) : Bool := decide (¬ Op.cmpValue (FP.dcmp x y) CmpOp.l ≤ 0)
def la_lt (x y : UInt64) : Bool := decide (¬ 0 ≤ Op.cmpValue (FP.dcmp x y) CmpOp.g)
def la_ge9 (x : UInt64) : Bool := decide (¬ Op.cmpValue (FP.dcmp x 4621256167635550208) CmpOp.l < 0)
def la_rd (pl : Nat → Int32) (ch : Nat → UInt64) (j : Nat) : Bool := decide (pl j = 0) && la_ge9 (ch j)
def la_is (ki pl : Nat → Int32) (ch : Nat → UInt64) (k : Int32) (j : Nat) : Bool := decide (ki j = k) && la_rd pl ch j
def la_full (ki pl : Nat → Int32) (ch : Nat → UInt64) (k : Int32) : Nat → Int32
  | 0 => -1
  | j + 1 => if la_is ki pl ch k j = true ∧ (la_full ki pl ch k j = -1 ∨ la_gt (ch j) (ch (la_full ki pl ch k j).toNatClampNeg) = true) then nI j else la_full ki pl ch k j
theorem la_full_or (ki pl : Nat → Int32) (ch : Nat → UInt64) (k : Int32) : ∀ i, la_full ki pl ch k i = -1 ∨ ∃ b, b < i ∧ la_full ki pl ch k i = nI b
  | 0 => Or.inl rfl
  | i + 1 => by
    rw [la_full]
    split
    · exact Or.inr ⟨i, by omega, rfl⟩
    · rcases la_full_or ki pl ch k i with h | ⟨b, h1, h2⟩
      · exact Or.inl h
      · exact Or.inr ⟨b, by omega, h2⟩
def la_best (ki pl : Nat → Int32) (ch : Nat → UInt64) (n : Nat) : Nat → Nat → Int32
  | 0, _ => -1
  | f + 1, k => if la_full ki pl ch (nI k) n = -1 then la_best ki pl ch n f (k + 1) else la_full ki pl ch (nI k) n
def la_new (k : Int32) : UInt64 := if k = 0 then 4622945017495814144 else if k = 1 then 4625196817309499392 else 4626322717216342016
def la_weak (ki : Nat → Int32) (ca : Nat → UInt64) (j : Nat) : Bool := la_lt (ca j) (FP.dmul 4604930618986332160 (la_new (ki j)))
def la_fault (le ki : Nat → Int32) (ca : Nat → UInt64) (j : Nat) : Int32 := if le j = 0 then (if la_weak ki ca j = true then 2 else 0) else 1
def la_rem (t : Int32) : Int32 := t - t / 7 * 7
def la_loss (z : Int32) : UInt64 := if z = 0 then 4607182418800017408 else 4609434218613702656
def la_b1 (x : UInt64) (z : Int32) : UInt64 := if la_gt x (la_loss z) = true then FP.dsub x (la_loss z) else 0
def la_burn (pl le : Nat → Int32) (ch : Nat → UInt64) : Nat → Nat → UInt64
  | 0 => ch
  | j + 1 => if pl j = 1 then vf_upd (la_burn pl le ch j) j (la_b1 (la_burn pl le ch j j) (le j)) else la_burn pl le ch j
def la_l1 (x y : UInt64) : UInt64 := if la_lt (FP.dadd x 4612811918334230528) y = true then FP.dadd x 4612811918334230528 else y
def la_ldo (pl : Nat → Int32) (ca : Nat → UInt64) (f : Nat → UInt64) (u j : Nat) : Bool := decide (u < 5) && (decide (pl j = 0) && la_lt (f j) (ca j))
def la_lo (pl : Nat → Int32) (ch ca : Nat → UInt64) : Nat → (Nat → UInt64) × Nat
  | 0 => (ch, 0)
  | j + 1 => if la_ldo pl ca (la_lo pl ch ca j).1 (la_lo pl ch ca j).2 j = true then (vf_upd (la_lo pl ch ca j).1 j (la_l1 ((la_lo pl ch ca j).1 j) (ca j)), (la_lo pl ch ca j).2 + 1) else la_lo pl ch ca j
theorem la_lo_le (pl : Nat → Int32) (ch ca : Nat → UInt64) : ∀ j, (la_lo pl ch ca j).2 ≤ 5
  | 0 => by rw [la_lo]; exact Nat.zero_le _
  | j + 1 => by
    have h := la_lo_le pl ch ca j
    rw [la_lo]
    split
    · rename_i h1
      have h2 : (la_lo pl ch ca j).2 < 5 := by
        simp only [la_ldo, Bool.and_eq_true, decide_eq_true_eq] at h1
        exact h1.1
      show (la_lo pl ch ca j).2 + 1 ≤ 5
      omega
    · exact h
theorem la_lo_stop {pl : Nat → Int32} {ch ca : Nat → UInt64} {i : Nat} (h : (la_lo pl ch ca i).2 = 5) : ∀ n, la_lo pl ch ca (i + n) = la_lo pl ch ca i
  | 0 => rfl
  | n + 1 => by
    have e := la_lo_stop h n
    rw [show i + (n + 1) = (i + n) + 1 by omega, la_lo, e, if_neg]
    simp [la_ldo, h]
theorem la_lo_t {pl : Nat → Int32} {ch ca : Nat → UInt64} {j : Nat} (h : la_ldo pl ca (la_lo pl ch ca j).1 (la_lo pl ch ca j).2 j = true) : la_lo pl ch ca (j + 1) = (vf_upd (la_lo pl ch ca j).1 j (la_l1 ((la_lo pl ch ca j).1 j) (ca j)), (la_lo pl ch ca j).2 + 1) := by rw [la_lo, if_pos h]
theorem la_lo_f {pl : Nat → Int32} {ch ca : Nat → UInt64} {j : Nat} (h : la_ldo pl ca (la_lo pl ch ca j).1 (la_lo pl ch ca j).2 j = false) : la_lo pl ch ca (j + 1) = la_lo pl ch ca j := by rw [la_lo, if_neg (by rw [h]; decide)]
/-- the sum over those on the rack -/
def la_sum (pl : Nat → Int32) (f : Nat → UInt64) : Nat → UInt64
  | 0 => 0
  | j + 1 => if pl j = 0 then FP.dadd (la_sum pl f j) (f j) else la_sum pl f j
-- tallies
def ta_p (th : Nat → Int32) (j : Nat) : Bool := decide (¬ th j = -1)
def ta_ah (th od : Nat → Int32) (m o : Nat) : Bool := decide (¬ th o = -1) && decide (od o < od m)
def ta_hit (th od : Nat → Int32) (n : Nat) (pl : Int32) (m : Nat) : Bool := decide (¬ th m = -1) && decide (nI (zf_cnt (ta_ah th od m) n) = pl)
