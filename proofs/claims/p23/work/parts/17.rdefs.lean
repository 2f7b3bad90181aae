-- own words for the room's loops
def la_dkc (x : UInt64) : Bool := decide (¬ 0 < Op.cmpValue (FP.dcmp x 0) CmpOp.g)
/-- an alarm begins, if there is ground for it and it doesn't last already -/
def ba_k (bb : Bool) (be : Nat → Int32) (k : Nat) (h : Int32) : (Nat → Int32) × Nat := if bb = true ∧ be k = 0 then (upd be k h, 1) else (be, 0)
theorem ba_f {be : Nat → Int32} {k : Nat} {h : Int32} : ba_k false be k h = (be, 0) := by
  unfold ba_k
  rw [if_neg]
  exact fun q => absurd q.1 (by decide)
theorem ba_n1 {be : Nat → Int32} {k : Nat} {h : Int32} (d : decide (be k = 0) = true) : (ba_k true be k h).2 = 1 := by
  unfold ba_k
  rw [if_pos ⟨rfl, of_decide_eq_true d⟩]
theorem ba_n0 {be : Nat → Int32} {k : Nat} {h : Int32} (d : decide (be k = 0) = false) : (ba_k true be k h).2 = 0 := by
  unfold ba_k
  rw [if_neg (fun q => of_decide_eq_false d q.2)]
def pb_2 (hu : Nat → Int32) (ch : Nat → UInt64) (be : Nat → Int32) (clk : Int32) (j mi : Nat) : (Nat → Int32) × Nat :=
  ((ba_k (la_dkc (ch j)) (ba_k (la_lt9 clk (hu mi)) be (2 * mi + 0) clk).1 (2 * mi + 1) clk).1, (ba_k (la_lt9 clk (hu mi)) be (2 * mi + 0) clk).2 + (ba_k (la_dkc (ch j)) (ba_k (la_lt9 clk (hu mi)) be (2 * mi + 0) clk).1 (2 * mi + 1) clk).2)
def pb_k (th hu : Nat → Int32) (ch : Nat → UInt64) (be : Nat → Int32) (clk : Int32) : Nat → (Nat → Int32) × Nat
  | 0 => (be, 0)
  | m + 1 => if th m = -1 then pb_k th hu ch be clk m else ((pb_2 hu ch (pb_k th hu ch be clk m).1 clk (th m).toNatClampNeg m).1, (pb_k th hu ch be clk m).2 + (pb_2 hu ch (pb_k th hu ch be clk m).1 clk (th m).toNatClampNeg m).2)
def sp_a (ki tk th : Nat → Int32) (j : Nat) : Bool := decide (¬ th j = -1) && decide (¬ ki (th j).toNatClampNeg ≤ tk j)
