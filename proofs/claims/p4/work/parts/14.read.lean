/-! THE READING: bytes and bits of IN, RANGE and CODE -/
abbrev byA (is : List Nat) (q : Nat) : Nat := is.getD q 0
def oct (is : List Nat) : Prop := ∀ i, byA is i < 256
def frN (is : List Nat) (q : Nat) : Nat → Nat
  | 0 => 0
  | j + 1 => frN is q j * 256 + byA is (q + j)
theorem frN_lt {is : List Nat} (h : oct is) (q : Nat) : ∀ j, frN is q j < 256 ^ j
  | 0 => by simp [frN]
  | j + 1 => by
    have h1 := frN_lt h q j
    have h2 := h (q + j)
    rw [frN, Nat.pow_succ]
    omega
def biA (is : List Nat) (t : Nat) : Nat := byA is (t / 8) / 2 ^ (7 - t % 8) % 2
abbrev RS : Type := Nat × Nat × Nat
/-- RANGE, CODE, bytes asked for: widened -/
def wrN (is : List Nat) : Nat → RS → RS
  | 0, r => r
  | k + 1, r => if r.1 < 16777216 then wrN is k (r.1 * 256, r.2.1 * 256 % 4294967296 + byA is r.2.2, r.2.2 + 1) else r
def wrS (is : List Nat) (r : RS) : RS := wrN is 8 r
theorem wrN_e {is : List Nat} {k : Nat} {r : RS} (h : ¬ r.1 < 16777216) : wrN is k r = r := by
  cases k with
  | zero => rfl
  | succ k => rw [wrN, if_neg h]
theorem wrN_s {is : List Nat} {k : Nat} {r : RS} (h0 : 0 < k) (h : r.1 < 16777216) : wrN is k r = wrN is (k - 1) (r.1 * 256, r.2.1 * 256 % 4294967296 + byA is r.2.2, r.2.2 + 1) := by
  cases k with
  | zero => omega
  | succ k => rw [wrN, if_pos h]; rfl
/-- X, bytes asked for: filled again -/
def rfN (is : List Nat) : Nat → Nat × Nat → Nat × Nat
  | 0, r => r
  | k + 1, r => if r.1 < 8388608 then rfN is k (r.1 * 256 + byA is r.2, r.2 + 1) else r
def rfS (is : List Nat) (r : Nat × Nat) : Nat × Nat := rfN is 8 r
theorem rfN_e {is : List Nat} {k : Nat} {r : Nat × Nat} (h : ¬ r.1 < 8388608) : rfN is k r = r := by
  cases k with
  | zero => rfl
  | succ k => rw [rfN, if_neg h]
theorem rfN_s {is : List Nat} {k : Nat} {r : Nat × Nat} (h0 : 0 < k) (h : r.1 < 8388608) : rfN is k r = rfN is (k - 1) (r.1 * 256 + byA is r.2, r.2 + 1) := by
  cases k with
  | zero => omega
  | succ k => rw [rfN, if_pos h]; rfl
theorem L_or8 {a b : Nat} (hb : b < 256) (h : a * 256 + b < 2 ^ 64) : lN (a * 256) ||| lN b = lN (a * 256 + b) := g_or (k := 8) (p := 256) (by decide) hb h
theorem I_shrA {n x : Nat} {s : Int32} (h : n < 2 ^ 31) (hs : s = nI x) (hx : x < 32) : nI n >>> (s &&& 31) = nI (n / 2 ^ x) := by subst hs; exact I_shr h hx
theorem I_and1 {n : Nat} (h : n < 2 ^ 32) : nI n &&& 1 = nI (n % 2) := pk_andN h 1 (by decide +kernel)
/-- the sign whose part holds u: k tries left, from s on -/
def fs (F : Nat → Nat) (u : Nat) : Nat → Nat → Nat
  | 0, s => s
  | k + 1, s => if u < ns F (s + 1) then s else fs F u k (s + 1)
def sgA (F : Nat → Nat) (n u : Nat) : Nat := fs F u n 0
theorem fs_spec {F : Nat → Nat} {u : Nat} : ∀ (k s : Nat), ns F s ≤ u → u < ns F (s + k) → fs F u k s < s + k ∧ ns F (fs F u k s) ≤ u ∧ u < ns F (fs F u k s + 1)
  | 0, s, h1, h2 => by rw [Nat.add_zero] at h2; omega
  | k + 1, s, h1, h2 => by
    rw [fs]
    split
    · rename_i h; exact ⟨by omega, h1, h⟩
    · rename_i h
      have q := fs_spec (F := F) (u := u) k (s + 1) (by omega) (by rw [show s + 1 + k = s + (k + 1) by omega]; exact h2)
      exact ⟨by omega, q.2⟩
theorem sgA_spec {F : Nat → Nat} {n u : Nat} (h : u < ns F n) : sgA F n u < n ∧ ns F (sgA F n u) ≤ u ∧ u < ns F (sgA F n u) + F (sgA F n u) := by
  have q := fs_spec (F := F) (u := u) n 0 (Nat.zero_le _) (by rw [Nat.zero_add]; exact h)
  rw [Nat.zero_add] at q
  exact ⟨q.1, q.2.1, q.2.2⟩
/-- v of an item, if it isn't BAD -/
def wnt (tt RR x : Nat) : Option Nat := if RR / tt = 0 then none else if x / (RR / tt) < tt then some (x / (RR / tt)) else none
def oL : Option Nat → Int64
  | none => -1
  | some v => lN v
theorem L_sub32 {a b : Nat} (ha : a < 4294967296) (hb : b < 4294967296) : lN a - lN b &&& 4294967295 = lN ((a + 4294967296 - b) % 4294967296) := by
  have e : lN a - lN b = lN (a + (18446744073709551616 - b)) := by
    apply wb_inj
    rw [Int64.toBitVec_sub, wb_tb, wb_tb, wb_tb]
    apply BitVec.eq_of_toNat_eq
    rw [BitVec.toNat_sub, BitVec.toNat_ofNat, BitVec.toNat_ofNat, BitVec.toNat_ofNat]
    omega
  rw [e]
  rcases Nat.lt_or_ge (a + (18446744073709551616 - b)) 18446744073709551616 with q | q
  · rw [L_and32 q]; congr 1; omega
  · rw [show lN (a + (18446744073709551616 - b)) = lN (a - b) from by
      rw [wb_mod (a + (18446744073709551616 - b))]; congr 1; omega]
    rw [L_and32 (by omega)]; congr 1; omega
def rInv (r : RS) : Prop := 16777216 ≤ r.1 ∧ r.1 < 4294967296 ∧ r.2.1 < 4294967296
theorem wr_main {is : List Nat} (ho : oct is) : ∀ (c k : Nat) (r : RS), c ≤ 3 → c < k → 256 ^ (3 - c) ≤ r.1 → r.1 < 4294967296 → r.2.1 < 4294967296 → rInv (wrN is k r) ∧ (wrN is k r).2.2 ≤ r.2.2 + c ∧ r.2.2 ≤ (wrN is k r).2.2 := by
  intro c
  induction c with
  | zero =>
    intro k r _ _ h1 h2 h3
    have h5 : 16777216 ≤ r.1 := h1
    rw [wrN_e (by omega)]
    exact ⟨⟨h5, h2, h3⟩, Nat.le_refl _, Nat.le_refl _⟩
  | succ c ih =>
    intro k r hc hk h1 h2 h3
    by_cases h : r.1 < 16777216
    · rw [wrN_s (by omega) h]
      have hp : 256 ^ (3 - c) = 256 ^ (3 - (c + 1)) * 256 := by rw [← Nat.pow_succ]; congr 1; omega
      have hb := ho r.2.2
      have q := ih (k - 1) (r.1 * 256, r.2.1 * 256 % 4294967296 + byA is r.2.2, r.2.2 + 1) (by omega) (by omega) (by show _ ≤ r.1 * 256; rw [hp]; exact Nat.mul_le_mul_right _ h1) (by show r.1 * 256 < _; omega) (by show r.2.1 * 256 % 4294967296 + byA is r.2.2 < _; omega)
      refine ⟨q.1, ?_, ?_⟩
      · have := q.2.1; simp only at this; omega
      · have := q.2.2; simp only at this; omega
    · rw [wrN_e h]
      exact ⟨⟨by omega, h2, h3⟩, by omega, Nat.le_refl _⟩
theorem wr_inv {is : List Nat} (ho : oct is) {r : RS} (h1 : 0 < r.1) (h2 : r.1 < 4294967296) (h3 : r.2.1 < 4294967296) : rInv (wrS is r) ∧ (wrS is r).2.2 ≤ r.2.2 + 3 ∧ r.2.2 ≤ (wrS is r).2.2 := wr_main ho 3 8 r (by decide) (by decide) h1 h2 h3
/-- a bit is read: what it is; RANGE and CODE then -/
def rbt (bb CD : Nat) : Nat := if CD < bb then 0 else 1
def rbS (bb RR CD q : Nat) : RS := if CD < bb then (bb, CD, q) else (RR - bb, CD - bb, q)
/-- CODE behind a bit of a VALUE -/
abbrev crd (r : RS) : Nat := if r.2.1 < r.1 / 2 then r.2.1 else r.2.1 - r.1 / 2
/-- the bits of a VALUE of form 2 are read -/
def pbN (is : List Nat) : Nat → Nat → RS → Option Nat × RS
  | 0, v, r => (some v, r)
  | k + 1, v, r => if crd r < r.1 / 2 then pbN is k (2 * v + rbt (r.1 / 2) r.2.1) (wrS is (r.1 / 2, crd r, r.2.2)) else (none, (r.1 / 2, crd r, r.2.2))
/-- a VALUE of form 2 -/
def pbS (is : List Nat) (b : Nat) (r : RS) : Option Nat × RS := if r.2.1 < r.1 then pbN is b 0 r else (none, r)
def oI : Option Nat → Int32
  | none => -1
  | some v => nI v
/-- the bits of a sign of form 2 are read: NODE, the reading, the CHANCES -/
def gnN (is : List Nat) (sh : Nat) : Nat → Nat → RS → (Nat → Nat) → Nat × RS × (Nat → Nat)
  | 0, nd, r, D => (nd, r, D)
  | k + 1, nd, r, D => gnN is sh k (2 * nd + rbt (r.1 / 2048 * D nd) r.2.1) (wrS is (rbS (r.1 / 2048 * D nd) r.1 r.2.1 r.2.2)) (upN D nd (mvC sh (rbt (r.1 / 2048 * D nd) r.2.1) (D nd)))
/-- a sign of form 2 -/
def gnS (is : List Nat) (sh n : Nat) (r : RS) (D : Nat → Nat) : Option Nat × RS × (Nat → Nat) := if r.2.1 < r.1 then ((if (gnN is sh (lev n) 1 r D).1 - 2 ^ lev n < n then some ((gnN is sh (lev n) 1 r D).1 - 2 ^ lev n) else none), (gnN is sh (lev n) 1 r D).2) else (none, r, D)
theorem rbt_lt (bb CD : Nat) : rbt bb CD < 2 := by unfold rbt; split <;> decide
theorem rb_ok {bb RR CD q : Nat} (h1 : 0 < bb) (h2 : bb < RR) (h3 : RR < 4294967296) (h4 : CD < 4294967296) : 0 < (rbS bb RR CD q).1 ∧ (rbS bb RR CD q).1 < 4294967296 ∧ (rbS bb RR CD q).2.1 < 4294967296 ∧ (rbS bb RR CD q).2.2 = q := by
  unfold rbS
  split
  · exact ⟨h1, by show bb < _; omega, h4, rfl⟩
  · exact ⟨by show 0 < RR - bb; omega, by show RR - bb < _; omega, by show CD - bb < _; omega, rfl⟩
theorem nd_lo {lv j nd b : Nat} (hj : 1 ≤ j) (hj2 : j ≤ lv) (h : 2 ^ (lv - j) ≤ nd ∧ nd < 2 ^ (lv - j + 1)) (hb : b < 2) : 2 ^ (lv - (j - 1)) ≤ 2 * nd + b ∧ 2 * nd + b < 2 ^ (lv - (j - 1) + 1) := by
  have z1 : 2 ^ (lv - (j - 1)) = 2 * 2 ^ (lv - j) := by rw [show lv - (j - 1) = (lv - j) + 1 by omega, Nat.pow_succ, Nat.mul_comm]
  have z : 2 ^ (lv - (j - 1) + 1) = 2 * 2 ^ (lv - j + 1) := by rw [show lv - (j - 1) + 1 = (lv - j + 1) + 1 by omega, Nat.pow_succ, Nat.mul_comm]
  omega

