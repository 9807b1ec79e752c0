theorem lev_63 (n : Nat) : 2 ^ lev n ≤ 64 := by
  have h : lev n ≤ 6 := by unfold lev; repeat' split
                           all_goals decide
  exact Nat.le_trans (Nat.pow_le_pow_right (by decide) h) (by decide)
theorem lev_30 (n : Nat) : lev n < 31 := by
  unfold lev
  repeat' split
  all_goals decide
theorem nI_pred9 {n : Nat} (h : 0 < n) : nI n - 1 = nI (n - 1) := by
  have e : n = (n - 1) + 1 := by omega
  rw [e, nI_pred, Nat.add_sub_cancel]

