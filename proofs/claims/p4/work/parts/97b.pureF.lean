/-! PURE WORDS for the class's own tables and rows -/
def tbI (f : Nat → Int32) (n : Nat) (G : Nat → Nat) : Prop := ∀ k, k < n → f k = nI (G k)
def tbL (fL : Nat → Int32) (n j : Nat) (G F : Nat → Nat) : Prop := tbI fL j G ∧ ∀ k, j ≤ k → k < n → fL k = nI (F k)
theorem tbI_0 (f : Nat → Int32) (G : Nat → Nat) : tbI f 0 G := fun k hk => absurd hk (Nat.not_lt_zero k)
theorem tbL_0 {f : Nat → Int32} {n : Nat} {G F : Nat → Nat} (h : tbI f n F) : tbL f n 0 G F := ⟨tbI_0 _ _, fun k _ hk => h k hk⟩
theorem tbL_st {fL : Nat → Int32} {n j i : Nat} {G F : Nat → Nat} {x : Int32} (h : tbL fL n j G F) (hi : i = j) (hx : x = nI (G j)) : tbL (upd fL i x) n (j + 1) G F := by
  subst hi
  refine ⟨fun k hk => ?_, fun k hk hk2 => ?_⟩
  · by_cases e : k = i
    · subst e; rw [pk_us, hx]
    · rw [pk_un e]; exact h.1 k (by omega)
  · rw [pk_un (by omega)]; exact h.2 k (by omega) hk2
theorem tb_up {f : Nat → Int32} {n j i : Nat} {F : Nat → Nat} {x : Int32} {v : Nat} (h : tbI f n F) (hi : i = j) (hx : x = nI v) : tbI (upd f i x) n (upN F j v) := by
  subst hi
  intro k hk
  by_cases e : k = i
  · subst e; rw [pk_us, upN_s, hx]
  · rw [pk_un e, upN_n _ e]; exact h k hk
theorem tb_add {f : Nat → Int32} {j i : Nat} {G : Nat → Nat} {x : Int32} (h : tbI f j G) (hi : i = j) (hx : x = nI (G j)) : tbI (upd f i x) (j + 1) G := by
  subst hi
  intro k hk
  by_cases e : k = i
  · subst e; rw [pk_us, hx]
  · rw [pk_un e]; exact h k (by omega)
theorem tb_rd {f : Nat → Int32} {n j : Nat} {F : Nat → Nat} (h : tbI f n F) (hj : j < n) (hb : j < 2 ^ 31) : f (nI j).toNatClampNeg = nI (F j) := by rw [nI_clamp hb]; exact h j hj
theorem tb_rd2 {f : Nat → Int32} {n j : Nat} {G F : Nat → Nat} (h : tbL f n j G F) (hj : j < n) (hb : j < 2 ^ 31) : f (nI j).toNatClampNeg = nI (F j) := by rw [nI_clamp hb]; exact h.2 j (Nat.le_refl _) hj
theorem nI_lt' {j n : Nat} (hj : j < 2 ^ 31) (h : ¬ nI n ≤ nI j) : j < n := by
  rcases Nat.lt_or_ge j n with q | q
  · exact q
  · exact absurd (nI_le q hj) h
theorem nI_ge' {j n : Nat} (hj : j < 2 ^ 31) (hn : n < 2 ^ 31) (h : nI n ≤ nI j) : n ≤ j := (nI_cmp hn hj).mp h
/-- a row's list and its size -/
theorem rOk_nI {n cap : Nat} (h : rOk (nI n) cap) (hn : n < 2 ^ 31) : n ≤ cap := by
  have := h.2.1
  rw [nI_toInt hn] at this
  omega
theorem rOk_of {n cap : Nat} (hn : n ≤ cap) (h1 : 1 ≤ cap) (h2 : cap ≤ 16384) : rOk (nI n) cap := by
  refine ⟨?_, ?_, h1, h2⟩
  · rw [nI_toInt (by omega)]; omega
  · rw [nI_toInt (by omega)]; omega
theorem gIs_cpy {f g : Nat → Int32} {bs : List Nat} {n : Nat} (h : gIs f bs) (hn : bs.length ≤ n) : gIs (va_cpy f g 0 0 n) bs := by
  intro i hi
  rw [← h i hi]
  unfold va_cpy
  rw [if_pos ⟨Nat.zero_le _, by omega⟩]
  congr 1
  omega
/-- what a row answers at i -/
def rAt (bs : List Nat) (i : Int32) : Int32 := if 0 ≤ i ∧ i < nI bs.length then nI (bs.getD i.toNatClampNeg 0) else -1
theorem has_lt {n k : Nat} {i : Int32} (hn : n ≤ k) (hk : k < 2 ^ 31) (h0 : ¬ i < 0) (h1 : ¬ nI n ≤ i) : ¬ nI k ≤ i := by
  intro h
  apply h1
  rw [Int32.le_iff_toInt_le, nI_toInt (by omega)] at h ⊢
  omega
theorem has_1 {n : Nat} {i : Int32} (h0 : ¬ i < 0) (h1 : ¬ nI n ≤ i) : (1 : Int32) = if 0 ≤ i ∧ i < nI n then 1 else 0 := by rw [if_pos ⟨Int32.not_lt.mp h0, Int32.not_le.mp h1⟩]
theorem has_0a {n : Nat} {i : Int32} (h0 : i < 0) : (0 : Int32) = if 0 ≤ i ∧ i < nI n then 1 else 0 := by rw [if_neg (fun h => absurd h0 (Int32.not_lt.mpr h.1))]
theorem has_0b {n : Nat} {i : Int32} (h1 : nI n ≤ i) : (0 : Int32) = if 0 ≤ i ∧ i < nI n then 1 else 0 := by rw [if_neg (fun h => absurd h.2 (Int32.not_lt.mpr h1))]
theorem has_in {n i : Nat} (h : i < n) (hn : n < 2 ^ 31) : 0 ≤ nI i ∧ nI i < nI n := ⟨Int32.not_lt.mp (nI_pos (by omega)), Int32.not_le.mp (nI_ge h hn)⟩
theorem rAt_0 {bs : List Nat} {i : Int32} (h : ¬ (0 ≤ i ∧ i < nI bs.length)) : (-1 : Int32) = rAt bs i := by unfold rAt; rw [if_neg h]
theorem rAt_1 {bs : List Nat} {i v : Int32} {f : Nat → Int32} (hb : bs.length < 2 ^ 31) (hG : gIs f bs) (h : 0 ≤ i ∧ i < nI bs.length) (e : v = f i.toNatClampNeg) : v = rAt bs i := by
  unfold rAt
  rw [if_pos h, e]
  refine hG _ ?_
  obtain ⟨h0, h1⟩ := h
  obtain ⟨j, hj, rfl⟩ := nI_of (Int32.not_lt.mpr h0)
  rw [nI_clamp hj]
  rw [Int32.lt_iff_toInt_lt, nI_toInt hj, nI_toInt hb] at h1
  omega
theorem gIs_setN {f : Nat → Int32} {bs : List Nat} {i k x : Nat} (h : gIs f bs) (hk : k = i) : gIs (upd f k (nI x)) (bs.set i x) := by
  subst hk
  intro j hj
  rw [List.length_set] at hj
  by_cases e : j = k
  · subst e
    rw [pk_us]
    simp [List.getD_eq_getElem?_getD, hj]
  · rw [pk_un e, h j hj]
    simp [List.getD_eq_getElem?_getD, List.getElem?_set_ne (Ne.symm e)]
theorem sub_toInt {a b : Nat} (ha : a < 2 ^ 30) (hb : b < 2 ^ 30) : (nI a - nI b).toInt = (a : Int) - b := by
  rw [Int32.toInt_sub, nI_toInt (by omega), nI_toInt (by omega)]
  apply Int.bmod_eq_of_le <;> omega
theorem not_le0 {x : Int32} (h : ¬ x ≤ 0) : 0 < x.toInt := by
  rw [Int32.le_iff_toInt_le] at h
  have e0 : (0 : Int32).toInt = 0 := rfl
  omega
theorem le_0 {x : Int32} (h : x ≤ 0) : x.toInt ≤ 0 := by
  rw [Int32.le_iff_toInt_le] at h
  have e0 : (0 : Int32).toInt = 0 := rfl
  omega
theorem nI_pos0 {n : Nat} (h : 0 < n) (hn : n < 2 ^ 31) : (0 : Int32) < nI n := by
  rw [Int32.lt_iff_toInt_lt, nI_toInt hn]
  have e0 : (0 : Int32).toInt = 0 := rfl
  omega
/-- the greater of 1 and n -/
theorem max1 {n : Nat} (hn : n < 2 ^ 31) : (if (1 : Int32) < nI n then nI n else 1) = nI (if n < 1 then 1 else n) := by
  have e1 : (1 : Int32).toInt = 1 := rfl
  by_cases h : n < 1
  · rw [if_pos h, if_neg (by rw [Int32.lt_iff_toInt_lt, nI_toInt hn, e1]; omega)]; rfl
  · rw [if_neg h]
    by_cases h2 : n = 1
    · subst h2; rfl
    · rw [if_pos (by rw [Int32.lt_iff_toInt_lt, nI_toInt hn, e1]; omega)]
theorem nI_m1 {n : Nat} (h : 0 < n) : nI n + (-1) = nI (n - 1) := by
  rw [← nI_pred9 h]
  exact (Int32.sub_eq_add_neg (a := nI n) (b := 1)).symm
/-- so many SHIFTS -/
def shK : Nat → ES → ES
  | 0, e => e
  | k + 1, e => shK k (shS e)
/-- so many bytes of LOW -/
def tpK : Nat → Nat × List Nat → Nat × List Nat
  | 0, e => e
  | k + 1, e => tpK k (mvL e.1, e.2 ++ [e.1 / 16777216 % 256])
/-! shifts that don't keep the sign -/
theorem U_shr24 {n : Nat} (h : n < 2 ^ 64) : ((lN n).toUInt64 >>> ((24 : Int32).toInt64.toUInt64 &&& Int64.toUInt64 63)).toInt64 = lN (n / 16777216) := wb_shr (k := 24) h (by decide)
theorem U_shr32 {n : Nat} (h : n < 2 ^ 64) : ((lN n).toUInt64 >>> ((32 : Int32).toInt64.toUInt64 &&& Int64.toUInt64 63)).toInt64 = lN (n / 4294967296) := wb_shr (k := 32) h (by decide)
theorem U_shr11 {n : Nat} (h : n < 2 ^ 64) : ((lN n).toUInt64 >>> ((11 : Int32).toInt64.toUInt64 &&& Int64.toUInt64 63)).toInt64 = lN (n / 2048) := wb_shr (k := 11) h (by decide)
theorem U_shr8 {n : Nat} (h : n < 2 ^ 64) : ((lN n).toUInt64 >>> ((8 : Int32).toInt64.toUInt64 &&& Int64.toUInt64 63)).toInt64 = lN (n / 256) := wb_shr (k := 8) h (by decide)
theorem U_shr1 {n : Nat} (h : n < 2 ^ 64) : ((lN n).toUInt64 >>> ((1 : Int32).toInt64.toUInt64 &&& Int64.toUInt64 63)).toInt64 = lN (n / 2) := wb_shr (k := 1) h (by decide)
theorem nx_cnt : ∀ j : Fin 32, (UInt32.ofNat j.val &&& Int32.toUInt32 31).toNat % 32 = j.val := by decide +kernel
theorem I_ushr {k j : Nat} (hk : k < 65536) (hj : j < 32) : ((nI k).toUInt32 >>> ((nI j).toUInt32 &&& Int32.toUInt32 31)).toInt32 = nI (k / 2 ^ j) := by
  rw [← Nat.shiftRight_eq_div_pow]
  have hs : k >>> j ≤ k := by
    rw [Nat.shiftRight_eq_div_pow]
    exact Nat.div_le_self _ _
  have e2 : UInt32.ofNat k >>> (UInt32.ofNat j &&& Int32.toUInt32 31) = UInt32.ofNat (k >>> j) := by
    apply UInt32.toNat_inj.1
    have h1 : (UInt32.ofNat k).toNat = k := Nat.mod_eq_of_lt (by omega)
    have h2 : (UInt32.ofNat (k >>> j)).toNat = k >>> j := Nat.mod_eq_of_lt (by omega)
    rw [UInt32.toNat_shiftRight, nx_cnt ⟨j, hj⟩, h1, h2]
  show (UInt32.ofNat k >>> (UInt32.ofNat j &&& Int32.toUInt32 31)).toInt32 = _
  rw [e2]
  rfl
theorem rv_drop {W : List Nat} {j : Nat} (h0 : 1 ≤ j) (h : j ≤ W.length) : (W.drop j).reverse ++ [W.getD (j - 1) 0] = (W.drop (j - 1)).reverse := by
  obtain ⟨q, rfl⟩ : ∃ q, j = q + 1 := ⟨j - 1, by omega⟩
  have hq : q < W.length := by omega
  rw [Nat.add_sub_cancel, List.drop_eq_getElem_cons hq, List.reverse_cons, List.getD_eq_getElem?_getD, List.getElem?_eq_getElem hq]
  rfl
theorem rAt_nI {bs : List Nat} {i : Nat} (h : i < bs.length) (hb : bs.length < 2 ^ 31) : rAt bs (nI i) = nI (bs.getD i 0) := by
  unfold rAt
  rw [if_pos (has_in h hb), nI_clamp (by omega)]

