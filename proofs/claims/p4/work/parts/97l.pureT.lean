/-! FORM 4: bits that are WRITTEN, and the bytes that they become -/
def bvL (v : Nat) : Nat → List Nat
  | 0 => []
  | k + 1 => bvL v k ++ [v / 2 ^ k % 2]
theorem bvL_len (v : Nat) : ∀ k, (bvL v k).length = k
  | 0 => rfl
  | k + 1 => by rw [bvL, List.length_append, List.length_singleton, bvL_len v k]
def t4N (f : Nat) : Nat → Nat × List Nat → Nat × List Nat
  | 0, r => r
  | k + 1, r => if 2 * f ≤ r.1 then t4N f k (r.1 / 2, r.2 ++ [r.1 % 2]) else r
theorem t4N_e {f k : Nat} {r : Nat × List Nat} (h : ¬ 2 * f ≤ r.1) : t4N f k r = r := by
  cases k with
  | zero => rfl
  | succ k => rw [t4N, if_neg h]
theorem t4N_s {f k : Nat} {r : Nat × List Nat} (h0 : 0 < k) (h : 2 * f ≤ r.1) : t4N f k r = t4N f (k - 1) (r.1 / 2, r.2 ++ [r.1 % 2]) := by
  cases k with
  | zero => omega
  | succ k => rw [t4N, if_pos h]; rfl
/-- the d-th PLACE of sign x -/
def plO (F : Nat → Nat) (n x d : Nat) : Nat := ((List.range 512).find? (fun p => decide (plc F n p = x ∧ num F n p = d))).getD 0
theorem plO_ok {F : Nat → Nat} {n x d : Nat} (hs : ns F n = 512) (hx : x < n) (hd : d < F x) : plO F n x d < 512 ∧ plc F n (plO F n x d) = x ∧ num F n (plO F n x d) = d := by
  obtain ⟨p, h1, h2, h3⟩ := pl_find hs hx hd
  unfold plO
  cases hf : (List.range 512).find? (fun p => decide (plc F n p = x ∧ num F n p = d)) with
  | none =>
    have := List.find?_eq_none.mp hf p (List.mem_range.mpr h1)
    exact absurd (decide_eq_true ⟨h2, h3⟩) this
  | some q =>
    have a := List.find?_some hf
    have b := List.mem_of_find?_eq_some hf
    have c := of_decide_eq_true a
    exact ⟨List.mem_range.mp b, c.1, c.2⟩
theorem plO_eq {F : Nat → Nat} {n x d p : Nat} (hs : ns F n = 512) (hp : p < 512) (h1 : plc F n p = x) (h2 : num F n p = d) (hx : x < n) : p = plO F n x d := by
  have hd : d < F x := by rw [← h2, ← h1]; exact num_lt hs hp
  obtain ⟨a, b, c⟩ := plO_ok hs hx hd
  generalize plO F n x d = q at a b c ⊢
  unfold num at h2 c
  rw [h1] at h2
  rw [b] at c
  rcases Nat.lt_trichotomy p q with z | z | z
  · have m := cn_mono (plc F n) x (show p + 1 ≤ q from z)
    rw [cn, if_pos h1] at m
    omega
  · exact z
  · have m := cn_mono (plc F n) x (show q + 1 ≤ p from z)
    rw [cn, if_pos b] at m
    omega
def t4I (F : Nat → Nat) (n t : Nat) (r : Nat × List Nat) : Nat × List Nat := (512 + plO F n t ((t4N (F t) 10 r).1 - F t), (t4N (F t) 10 r).2)
def e4I (Fn : Nat → Nat → Nat) (N : Nat → Nat) (it : It) (r : Nat × List Nat) : Nat × List Nat := if it.1 = 0 then (r.1, r.2 ++ bvL it.2.2 it.2.1) else t4I (Fn it.2.1) (N it.2.1) it.2.2 r
def e4N (Fn : Nat → Nat → Nat) (N : Nat → Nat) (its : List It) : Nat → Nat × List Nat → Nat × List Nat
  | 0, r => r
  | k + 1, r => e4N Fn N its k (e4I Fn N (itA its k) r)
/-- all bits that FORM 4 has WRITTEN at its end -/
def e4W (Fn : Nat → Nat → Nat) (N : Nat → Nat) (its : List It) : List Nat := (e4N Fn N its its.length (512, [])).2 ++ bvL ((e4N Fn N its its.length (512, [])).1 - 512) 9
/-- the bit that was WRITTEN i-th from the last -/
def rvB (ws : List Nat) (i : Nat) : Nat := if i < ws.length then ws.getD (ws.length - 1 - i) 0 else 0
def byW (ws : List Nat) (fm : Nat) : Nat → Nat
  | 0 => 0
  | k + 1 => 2 * byW ws fm k + rvB ws (fm + k)
def pkB (ws : List Nat) : Nat → List Nat
  | 0 => []
  | k + 1 => pkB ws k ++ [byW ws (8 * k) 8]
theorem pkB_len (ws : List Nat) : ∀ k, (pkB ws k).length = k
  | 0 => rfl
  | k + 1 => by rw [pkB, List.length_append, List.length_singleton, pkB_len ws k]
theorem rvB_lt {ws : List Nat} (h : bt2 ws) (i : Nat) : rvB ws i < 2 := by
  unfold rvB
  split
  · show byA ws _ < 2; exact bt2_at h
  · decide
theorem byW_lt {ws : List Nat} (h : bt2 ws) (fm : Nat) : ∀ k, byW ws fm k < 2 ^ k
  | 0 => Nat.lt_succ_self 0
  | k + 1 => by
    have a := byW_lt h fm k
    have b := rvB_lt h (fm + k)
    rw [byW, Nat.pow_succ]
    omega
/-- behind the last bit there are noughts -/
theorem byW_0 {ws : List Nat} {fm k : Nat} (h : ws.length ≤ fm + k) : ∀ d, byW ws fm (k + d) = byW ws fm k * 2 ^ d
  | 0 => by rw [Nat.pow_zero, Nat.mul_one]; rfl
  | d + 1 => by
    have e : byW ws fm (k + (d + 1)) = 2 * byW ws fm (k + d) + rvB ws (fm + (k + d)) := rfl
    rw [e, byW_0 h d]
    unfold rvB
    rw [if_neg (by omega), Nat.pow_succ, Nat.add_zero, Nat.mul_comm 2, Nat.mul_assoc]
theorem bt2_app {a b : List Nat} (ha : bt2 a) (hb : bt2 b) : bt2 (a ++ b) := by
  intro x hx
  rcases List.mem_append.mp hx with q | q
  · exact ha x q
  · exact hb x q
theorem bt2_bv (v : Nat) : ∀ k, bt2 (bvL v k)
  | 0 => fun x hx => absurd hx List.not_mem_nil
  | k + 1 => bt2_add (bt2_bv v k) (Nat.mod_lt _ (by decide))
theorem last_i {len i : Nat} (hl : len < 2 ^ 20) (hi : i < 2 ^ 20) : ((nI len - 1) - nI i).toInt = (len : Int) - 1 - i := by
  have e1 : (1 : Int32).toInt = 1 := rfl
  have a : (nI len - 1).toInt = (len : Int) - 1 := by
    rw [Int32.toInt_sub, nI_toInt (by omega), e1]
    apply Int.bmod_eq_of_le <;> omega
  rw [Int32.toInt_sub, a, nI_toInt (by omega)]
  apply Int.bmod_eq_of_le <;> omega
theorem rv_1 {ws : List Nat} {i : Nat} {v : Int32} (hl : ws.length < 2 ^ 20) (hi : i < 2 ^ 20) (ev : v = (nI ws.length - 1) - nI i) (h : 0 ≤ v ∧ v < nI ws.length) : rAt ws v = nI (rvB ws i) := by
  have a := last_i hl hi
  rw [← ev] at a
  have h0 := h.1
  rw [Int32.le_iff_toInt_le, a] at h0
  have e0 : (0 : Int32).toInt = 0 := rfl
  rw [e0] at h0
  have e : v = nI (ws.length - 1 - i) := Int32.toInt_inj.mp (by rw [a, nI_toInt (by omega)]; omega)
  rw [e, rAt_nI (by omega) (by omega)]
  unfold rvB
  rw [if_pos (by omega)]
theorem rv_0 {ws : List Nat} {i : Nat} {v : Int32} (hl : ws.length < 2 ^ 20) (hi : i < 2 ^ 20) (ev : v = (nI ws.length - 1) - nI i) (h : ¬ (0 ≤ v ∧ v < nI ws.length)) : rvB ws i = 0 := by
  have a := last_i hl hi
  rw [← ev] at a
  unfold rvB
  split
  · exfalso
    apply h
    have e0 : (0 : Int32).toInt = 0 := rfl
    rw [Int32.le_iff_toInt_le, Int32.lt_iff_toInt_lt, a, e0, nI_toInt (by omega)]
    omega
  · rfl
theorem pw_k {x k : Nat} (h : x < 2 ^ k) (h2 : 2 ≤ x) : 2 ≤ k := by
  rcases Nat.lt_or_ge k 2 with q | q
  · have : k = 0 ∨ k = 1 := by omega
    rcases this with e | e <;> subst e <;> omega
  · exact q
theorem pw_h {x k : Nat} (h : x < 2 ^ k) (hk : 1 ≤ k) : x / 2 < 2 ^ (k - 1) := by
  obtain ⟨q, rfl⟩ : ∃ q, k = q + 1 := ⟨k - 1, by omega⟩
  rw [Nat.add_sub_cancel]
  rw [Nat.pow_succ] at h
  omega

