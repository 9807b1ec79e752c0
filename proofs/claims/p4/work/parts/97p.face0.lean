theorem has_no {n : Nat} {i : Int32} (h : i < 0 ∨ nI n ≤ i) : ¬ (0 ≤ i ∧ i < nI n) := fun q => h.elim (fun z => absurd z (Int32.not_lt.mpr q.1)) (fun z => absurd q.2 (Int32.not_lt.mpr z))
/-- a VALUE of so many bits -/
def okB (bm : Nat) (v b : Int32) : Prop := ∃ vv bb, 1 ≤ bb ∧ bb ≤ bm ∧ vv < 2 ^ bb ∧ v = nI vv ∧ b = nI bb
theorem okB_of {bm : Nat} {v b x : Int32} (hbm : bm ≤ 12) (h1 : 1 ≤ b ∧ b ≤ nI bm) (h2 : ¬ v < 0) (ex : x = (1 : Int32) <<< (b &&& 31)) (h3 : v < x) : okB bm v b := by
  obtain ⟨bb, q1, q2, rfl⟩ := in_of2 (a := 1) (b := bm) (by decide) (by omega) h1
  rw [shl1 bb (by omega)] at ex
  obtain ⟨vv, hv, rfl⟩ := nI_of h2
  have hp : 2 ^ bb ≤ 2 ^ 12 := Nat.pow_le_pow_right (by decide) (by omega)
  rw [ex, Int32.lt_iff_toInt_lt, nI_toInt hv, nI_toInt (by omega)] at h3
  exact ⟨vv, bb, q1, q2, by omega, rfl, rfl⟩
theorem wid_1 {bm : Nat} {v : Int32} (h1 : ¬ v < 1) (h2 : ¬ nI bm < v) : (1 : Int32) = if 1 ≤ v ∧ v ≤ nI bm then 1 else 0 := by rw [if_pos ⟨Int32.not_lt.mp h1, Int32.not_lt.mp h2⟩]
theorem wid_0a {bm : Nat} {v : Int32} (h1 : v < 1) : (0 : Int32) = if 1 ≤ v ∧ v ≤ nI bm then 1 else 0 := by rw [if_neg (fun h => absurd h1 (Int32.not_lt.mpr h.1))]
theorem wid_0b {bm : Nat} {v : Int32} (h1 : nI bm < v) : (0 : Int32) = if 1 ≤ v ∧ v ≤ nI bm then 1 else 0 := by rw [if_neg (fun h => absurd h1 (Int32.not_lt.mpr h.2))]
theorem bd_up {C : Nat → Nat} {n t c B : Nat} (h : bd C n B) (hc : c ≤ B) : bd (upN C t c) n B := fun k hk => by
  by_cases e : k = t
  · subst e; rw [upN_s]; exact hc
  · rw [upN_n _ e]; exact h k hk
/-- byte k of an int -/
def oB (v : Int32) (k : Nat) : Nat := v.toBitVec.toNat / 256 ^ k % 256
theorem oB_lt (v : Int32) (k : Nat) : oB v k < 256 := Nat.mod_lt _ (by decide)
theorem oB_u (v : Int32) : ∀ k, k < 4 → ∀ x : Int32, x = nI (8 * k) → ((v.toUInt32 >>> (x.toUInt32 &&& Int32.toUInt32 31)).toInt32 &&& 255) = nI (oB v k) := by
  intro k hk x ex
  subst ex
  have e : ((v.toUInt32 >>> ((nI (8 * k)).toUInt32 &&& Int32.toUInt32 31)).toInt32).toBitVec = v.toBitVec >>> (8 * k) := by
    have hk' : k = 0 ∨ k = 1 ∨ k = 2 ∨ k = 3 := by omega
    rcases hk' with h | h | h | h <;> subst h <;> rfl
  apply Int32.toBitVec_inj.mp
  rw [Int32.toBitVec_and, e]
  apply BitVec.eq_of_toNat_eq
  rw [BitVec.toNat_and, BitVec.toNat_ushiftRight]
  show _ &&& 255 = (BitVec.ofNat 32 (oB v k)).toNat
  rw [BitVec.toNat_ofNat, Nat.mod_eq_of_lt (Nat.lt_of_lt_of_le (oB_lt v k) (by decide)), show (255 : Nat) = 2 ^ 8 - 1 from rfl, Nat.and_two_pow_sub_one_eq_mod, Nat.shiftRight_eq_div_pow]
  unfold oB
  rw [Nat.pow_mul]
theorem I_nn {i : Int32} (h : ¬ i < 0) : 0 ≤ i.toInt := by rw [Int32.lt_iff_toInt_lt] at h; have e0 : (0 : Int32).toInt = 0 := rfl; omega
theorem I_ng {i : Int32} (h : i < 0) : i.toInt < 0 := by rw [Int32.lt_iff_toInt_lt] at h; have e0 : (0 : Int32).toInt = 0 := rfl; omega
theorem tk_st {os : List Nat} {j : Nat} (h : j < os.length) : os.take j ++ [os.getD j 0] = os.take (j + 1) := by
  rw [List.take_add_one, List.getElem?_eq_getElem h, List.getD_eq_getElem?_getD, List.getElem?_eq_getElem h]
  rfl
theorem nx_xor (a b : Nat) : nI a ^^^ nI b = nI (a ^^^ b) := by
  apply Int32.toBitVec_inj.1
  show BitVec.ofNat 32 a ^^^ BitVec.ofNat 32 b = BitVec.ofNat 32 (a ^^^ b)
  apply BitVec.eq_of_getLsbD_eq
  intro i hi
  simp [hi]

