/-! ITEMS that are kept, and FORM 3's end -/
abbrev It : Type := Nat × Nat × Nat
def itM (it : It) : Int32 := if it.1 = 0 then -nI it.2.1 else nI it.2.1
def itW (it : It) : Int32 := nI it.2.2
abbrev itA (its : List It) (i : Nat) : It := its.getD i (0, 0, 0)
def itIs (f g : Nat → Int32) (its : List It) : Prop := ∀ i, i < its.length → f i = itM (itA its i) ∧ g i = itW (itA its i)
def itF (M : Nat) (Fn : Nat → Nat → Nat) (it : It) : Nat := if it.1 = 0 then M / 2 ^ it.2.1 else Fn it.2.1 it.2.2
def itC (M : Nat) (Fn : Nat → Nat → Nat) (it : It) : Nat := if it.1 = 0 then M / 2 ^ it.2.1 * it.2.2 else ns (Fn it.2.1) it.2.2
/-- what holds of an item of form 3 -/
def it3 (vNow : Nat → Int32) (N : Nat → Nat) (Fn : Nat → Nat → Nat) (it : It) : Prop := (it.1 = 0 ∧ 1 ≤ it.2.1 ∧ it.2.1 ≤ 12 ∧ it.2.2 < 2 ^ it.2.1) ∨ (¬ it.1 = 0 ∧ it.2.1 < 8 ∧ N it.2.1 ≤ 64 ∧ it.2.2 < N it.2.1 ∧ 0 < Fn it.2.1 it.2.2 ∧ ns (Fn it.2.1) (N it.2.1) = 4096 ∧ sgI vNow (64 * it.2.1) (N it.2.1) (Fn it.2.1))
theorem it3_b {vNow : Nat → Int32} {N : Nat → Nat} {Fn : Nat → Nat → Nat} {it : It} (h : it3 vNow N Fn it) : 0 < itF 4096 Fn it ∧ itC 4096 Fn it + itF 4096 Fn it ≤ 4096 := by
  unfold itF itC
  rcases h with ⟨h0, h1, h2, h3⟩ | ⟨h0, h1, h2, h3, h4, h5, h6⟩
  · rw [if_pos h0, if_pos h0]
    have hp : 2 ^ it.2.1 ≤ 4096 := Nat.le_trans (Nat.pow_le_pow_right (n := 2) (by decide) h2) (by decide)
    have a : 0 < 4096 / 2 ^ it.2.1 := Nat.div_pos hp (Nat.pow_pos (by decide))
    refine ⟨a, ?_⟩
    have b : 4096 / 2 ^ it.2.1 * (it.2.2 + 1) ≤ 4096 / 2 ^ it.2.1 * 2 ^ it.2.1 := Nat.mul_le_mul_left _ h3
    have c := Nat.div_mul_le_self 4096 (2 ^ it.2.1)
    rw [Nat.mul_add, Nat.mul_one] at b
    omega
  · rw [if_neg h0, if_neg h0]
    have := ns_m1 (Fn it.2.1) h3
    omega
/-- bytes that are WRITTEN as X is too large for f -/
def s3N (f : Nat) : Nat → Nat × List Nat → Nat × List Nat
  | 0, r => r
  | k + 1, r => if f * 524288 ≤ r.1 then s3N f k (r.1 / 256, r.2 ++ [r.1 % 256]) else r
theorem s3N_e {f k : Nat} {r : Nat × List Nat} (h : ¬ f * 524288 ≤ r.1) : s3N f k r = r := by
  cases k with
  | zero => rfl
  | succ k => rw [s3N, if_neg h]
theorem s3N_s {f k : Nat} {r : Nat × List Nat} (h0 : 0 < k) (h : f * 524288 ≤ r.1) : s3N f k r = s3N f (k - 1) (r.1 / 256, r.2 ++ [r.1 % 256]) := by
  cases k with
  | zero => omega
  | succ k => rw [s3N, if_pos h]; rfl
def s3I (f c : Nat) (r : Nat × List Nat) : Nat × List Nat := ((s3N f 8 r).1 / f * 4096 + (s3N f 8 r).1 % f + c, (s3N f 8 r).2)
def e3N (Fn : Nat → Nat → Nat) (its : List It) : Nat → Nat × List Nat → Nat × List Nat
  | 0, r => r
  | k + 1, r => e3N Fn its k (s3I (itF 4096 Fn (itA its k)) (itC 4096 Fn (itA its k)) r)
def xb (k : Nat) : Nat := if k = 8 then 2147483648 else if k = 7 then 8388608 else 32768
def b4 (X : Nat) : Nat → List Nat
  | 0 => []
  | k + 1 => X % 256 :: b4 (X / 256) k
/-- what FORM 3 has WRITTEN at its end -/
def e3S (Fn : Nat → Nat → Nat) (its : List It) : List Nat := (e3N Fn its its.length (8388608, [])).2 ++ b4 (e3N Fn its its.length (8388608, [])).1 4
theorem s3_fin {f c X : Nat} (hf : 0 < f) (h1 : f * 2048 ≤ X) (h2 : X < f * 524288) (hc : c + f ≤ 4096) : 8388608 ≤ X / f * 4096 + X % f + c ∧ X / f * 4096 + X % f + c < 2147483648 := by
  have a : 2048 ≤ X / f := (Nat.le_div_iff_mul_le hf).mpr (by rw [Nat.mul_comm]; exact h1)
  have b : X / f < 524288 := (Nat.div_lt_iff_lt_mul hf).mpr (by rw [Nat.mul_comm]; exact h2)
  have d := Nat.mod_lt X hf
  omega

