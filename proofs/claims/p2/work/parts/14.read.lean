/-! THE READING: bytes and bits of IN, RANGE and CODE -/
abbrev byA (is : List Nat) (q : Nat) : Nat := is.getD q 0
def oct (is : List Nat) : Prop := ∀ i, byA is i < 256
def frN (is : List Nat) (q : Nat) : Nat → Nat
  | 0 => 0
  | j + 1 => frN is q j * 256 + byA is (q + j)
theorem frN_lt {is : List Nat} (h : oct is) (q : Nat) : ∀ j, frN is q j < 256 ^ j
  | 0 => by simp [frN]
  | j + 1 => by
    have h1 := frN_lt h q j
    have h2 := h (q + j)
    rw [frN, Nat.pow_succ]
    omega
def biA (is : List Nat) (t : Nat) : Nat := byA is (t / 8) / 2 ^ (7 - t % 8) % 2
abbrev RS : Type := Nat × Nat × Nat
/-- RANGE, CODE, bytes asked for: widened -/
def wrN (is : List Nat) : Nat → RS → RS
  | 0, r => r
  | k + 1, r => if r.1 < 16777216 then wrN is k (r.1 * 256, r.2.1 * 256 % 4294967296 + byA is r.2.2, r.2.2 + 1) else r
def wrS (is : List Nat) (r : RS) : RS := wrN is 8 r
theorem wrN_e {is : List Nat} {k : Nat} {r : RS} (h : ¬ r.1 < 16777216) : wrN is k r = r := by
  cases k with
  | zero => rfl
  | succ k => rw [wrN, if_neg h]
theorem wrN_s {is : List Nat} {k : Nat} {r : RS} (h0 : 0 < k) (h : r.1 < 16777216) : wrN is k r = wrN is (k - 1) (r.1 * 256, r.2.1 * 256 % 4294967296 + byA is r.2.2, r.2.2 + 1) := by
  cases k with
  | zero => omega
  | succ k => rw [wrN, if_pos h]; rfl
/-- X, bytes asked for: filled again -/
def rfN (is : List Nat) : Nat → Nat × Nat → Nat × Nat
  | 0, r => r
  | k + 1, r => if r.1 < 8388608 then rfN is k (r.1 * 256 + byA is r.2, r.2 + 1) else r
def rfS (is : List Nat) (r : Nat × Nat) : Nat × Nat := rfN is 8 r
theorem rfN_e {is : List Nat} {k : Nat} {r : Nat × Nat} (h : ¬ r.1 < 8388608) : rfN is k r = r := by
  cases k with
  | zero => rfl
  | succ k => rw [rfN, if_neg h]
theorem rfN_s {is : List Nat} {k : Nat} {r : Nat × Nat} (h0 : 0 < k) (h : r.1 < 8388608) : rfN is k r = rfN is (k - 1) (r.1 * 256 + byA is r.2, r.2 + 1) := by
  cases k with
  | zero => omega
  | succ k => rw [rfN, if_pos h]; rfl
theorem oct_lt {is : List Nat} {i : Nat} (h : oct is) : is.getD i 0 < 256 := h i
theorem L_or8 {a b : Nat} (hb : b < 256) (h : a * 256 + b < 2 ^ 64) : lN (a * 256) ||| lN b = lN (a * 256 + b) := g_or (k := 8) (p := 256) (by decide) hb h
theorem I_shrA {n x : Nat} {s : Int32} (h : n < 2 ^ 31) (hs : s = nI x) (hx : x < 32) : nI n >>> (s &&& 31) = nI (n / 2 ^ x) := by subst hs; exact I_shr h hx
theorem I_and1 {n : Nat} (h : n < 2 ^ 32) : nI n &&& 1 = nI (n % 2) := pk_andN h 1 (by decide +kernel)
