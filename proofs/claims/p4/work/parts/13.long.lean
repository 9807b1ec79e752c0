/-! longs as naturals, with the literals of the code -/
theorem L_shl8 (n : Nat) : lN n <<< ((8 : Int32).toInt64 &&& 63) = lN (n * 256) := wb_shl n (k := 8) (by decide)
theorem L_shl12 (n : Nat) : lN n <<< ((12 : Int32).toInt64 &&& 63) = lN (n * 4096) := wb_shl n (k := 12) (by decide)
theorem L_shl19 (n : Nat) : lN n <<< ((19 : Int32).toInt64 &&& 63) = lN (n * 524288) := wb_shl n (k := 19) (by decide)
theorem L_shr24 {n : Nat} (h : n < 2 ^ 62) : lN n >>> ((24 : Int32).toInt64 &&& 63) = lN (n / 16777216) := pf_shr (d := 24) (by decide +kernel) h
theorem L_shr32 {n : Nat} (h : n < 2 ^ 62) : lN n >>> ((32 : Int32).toInt64 &&& 63) = lN (n / 4294967296) := pf_shr (d := 32) (by decide +kernel) h
theorem L_shr11 {n : Nat} (h : n < 2 ^ 62) : lN n >>> ((11 : Int32).toInt64 &&& 63) = lN (n / 2048) := pf_shr (d := 11) (by decide +kernel) h
theorem L_shr12 {n : Nat} (h : n < 2 ^ 62) : lN n >>> ((12 : Int32).toInt64 &&& 63) = lN (n / 4096) := pf_shr (d := 12) (by decide +kernel) h
theorem L_shr8 {n : Nat} (h : n < 2 ^ 62) : lN n >>> ((8 : Int32).toInt64 &&& 63) = lN (n / 256) := pf_shr (d := 8) (by decide +kernel) h
theorem L_shr1 {n : Nat} (h : n < 2 ^ 62) : lN n >>> ((1 : Int32).toInt64 &&& 63) = lN (n / 2) := pf_shr (d := 1) (by decide +kernel) h
theorem L_and32 {n : Nat} (h : n < 2 ^ 64) : lN n &&& 4294967295 = lN (n % 4294967296) := g_mask (s := 32) (p := 4294967296) (by decide) (by decide) h
theorem L_and24 {n : Nat} (h : n < 2 ^ 64) : lN n &&& 16777215 = lN (n % 16777216) := g_mask (s := 24) (p := 16777216) (by decide) (by decide) h
theorem L_and16 {n : Nat} (h : n < 2 ^ 64) : lN n &&& 65535 = lN (n % 65536) := g_mask (s := 16) (p := 65536) (by decide) (by decide) h
theorem L_and12 {n : Nat} (h : n < 2 ^ 64) : lN n &&& 4095 = lN (n % 4096) := g_mask (s := 12) (p := 4096) (by decide) (by decide) h
theorem L_and8 {n : Nat} (h : n < 2 ^ 64) : lN n &&& 255 = lN (n % 256) := g_mask (s := 8) (p := 256) (by decide) (by decide) h
theorem L_lt {a b : Nat} (ha : a < 2 ^ 63) (hb : b < 2 ^ 63) : lN a < lN b ↔ a < b := pk_lLT ha hb
theorem L_le {a b : Nat} (ha : a < 2 ^ 63) (hb : b < 2 ^ 63) : lN a ≤ lN b ↔ a ≤ b := pk_lLE ha hb
/-! THE MESSAGE'S STATE of forms 0 to 2: RANGE, LOW, CACHE, PENDING, the bytes that have come -/
abbrev ES : Type := Nat × Nat × Option Nat × Nat × List Nat
abbrev eR (e : ES) : Nat := e.1
abbrev eL (e : ES) : Nat := e.2.1
abbrev eC (e : ES) : Option Nat := e.2.2.1
abbrev eP (e : ES) : Nat := e.2.2.2.1
abbrev eB (e : ES) : List Nat := e.2.2.2.2
/-- a CACHE as an int -/
def caI : Option Nat → Int32
  | none => -1
  | some c => nI c
def caB : Option Nat → Nat → List Nat
  | none, _ => []
  | some c, k => [(c + k) % 256]
abbrev shO (L : Nat) : Prop := L < 4278190080 ∨ 4294967296 ≤ L
/-- LOW is SHIFTED -/
def shL (L : Nat) : Nat := L % 16777216 * 256
def shC (L : Nat) (ca : Option Nat) : Option Nat := if shO L then some (L / 16777216 % 256) else ca
def shP (L P : Nat) : Nat := if shO L then 0 else P + 1
def shB (L : Nat) (ca : Option Nat) (P : Nat) (bs : List Nat) : List Nat := if shO L then bs ++ caB ca (L / 4294967296) ++ List.replicate P ((255 + L / 4294967296) % 256) else bs
def shS (e : ES) : ES := (eR e, shL (eL e), shC (eL e) (eC e), shP (eL e) (eP e), shB (eL e) (eC e) (eP e) (eB e))
/-- RANGE is widened: at most so many times -/
def wdN : Nat → ES → ES
  | 0, e => e
  | k + 1, e => if eR e < 16777216 then wdN k (shS (eR e * 256, e.2)) else e
def wdS (e : ES) : ES := wdN 8 e
/-- a list of bytes in an array -/
def gIs (f : Nat → Int32) (bs : List Nat) : Prop := ∀ i, i < bs.length → f i = nI (bs.getD i 0)
theorem gIs_add {f g : Nat → Int32} {bs : List Nat} {x : Nat} (h : gIs f bs) (hg : ∀ i, i < bs.length → g i = f i) (hx : g bs.length = nI x) : gIs g (bs ++ [x]) := by
  intro i hi
  rw [List.length_append, List.length_singleton] at hi
  rcases Nat.lt_or_ge i bs.length with h1 | h1
  · rw [hg i h1, h i h1]
    simp [List.getD_eq_getElem?_getD, List.getElem?_append_left h1]
  · have e : i = bs.length := by omega
    subst e
    rw [hx]
    simp [List.getD_eq_getElem?_getD]
theorem gIs_up {f : Nat → Int32} {bs : List Nat} {i x : Nat} {v : Int32} (h : gIs f bs) (hi : i = bs.length) (hx : v = nI x) : gIs (upd f i v) (bs ++ [x]) := by
  subst hi
  exact gIs_add h (fun j hj => pk_un (by omega)) (by rw [pk_us, hx])
theorem caI_ne {c : Option Nat} (h : ∀ x, c = some x → x < 256) : caI c = -1 ↔ c = none := by
  cases c with
  | none => simp [caI]
  | some x =>
    have hx := h x rfl
    simp only [caI, reduceCtorEq, iff_false]
    intro e
    have e1 := congrArg Int32.toInt e
    rw [nI_toInt (by omega)] at e1
    have : ((-1 : Int32)).toInt = -1 := by decide
    omega
/-- what holds of a message's state -/
def eOk (e : ES) : Prop := eL e < 8589934592 ∧ (∀ x, eC e = some x → x < 256)
theorem eOk_sh {e : ES} (h : eOk e) : eOk (shS e) := by
  refine ⟨?_, ?_⟩
  · show shL (eL e) < _
    unfold shL
    have := Nat.mod_lt (eL e) (show 0 < 16777216 by decide)
    omega
  · intro x hx
    simp only [shS, eC, shC] at hx
    split at hx
    · cases hx; exact Nat.mod_lt _ (by decide)
    · exact h.2 x hx
/-- how many bytes there can be, at most -/
def eN (e : ES) : Nat := (eB e).length + eP e + 1
theorem caB_le (c : Option Nat) (k : Nat) : (caB c k).length ≤ 1 := by cases c <;> simp [caB]
theorem eN_sh (e : ES) : eN (shS e) ≤ eN e + 1 := by
  obtain ⟨r, l, c, p, b⟩ := e
  have h := caB_le c (l / 4294967296)
  unfold eN
  simp only [shS, shB, shP, eB, eP, eC, eL]
  split
  · simp only [List.length_append, List.length_replicate]
    omega
  · omega
theorem wdN_e {k : Nat} {e : ES} (h : ¬ eR e < 16777216) : wdN k e = e := by
  cases k with
  | zero => rfl
  | succ k => rw [wdN, if_neg h]
theorem wdN_s {k : Nat} {e : ES} (h0 : 0 < k) (h : eR e < 16777216) : wdN k e = wdN (k - 1) (shS (eR e * 256, e.2)) := by
  cases k with
  | zero => omega
  | succ k => rw [wdN, if_pos h]; rfl
/-- a RANGE is at least this, with k times left -/
def wb8 (k : Nat) : Nat := 256 ^ (8 - k)
theorem wb8_k {k r : Nat} (h5 : 5 ≤ k) (h : wb8 k ≤ r) (hr : r < 16777216) : 5 < k := by
  rcases Nat.lt_or_ge 5 k with q | q
  · exact q
  · have e : k = 5 := by omega
    subst e
    have : wb8 5 = 16777216 := by decide
    omega
theorem wb8_s {k r : Nat} (h5 : 5 < k) (h8 : k ≤ 8) (h : wb8 k ≤ r) : wb8 (k - 1) ≤ r * 256 := by
  have hk : k = 6 ∨ k = 7 ∨ k = 8 := by omega
  rcases hk with e | e | e <;> subst e
  · have a : wb8 6 = 65536 := by decide
    have b : wb8 (6 - 1) = 16777216 := by decide
    omega
  · have a : wb8 7 = 256 := by decide
    have b : wb8 (7 - 1) = 65536 := by decide
    omega
  · have a : wb8 8 = 1 := by decide
    have b : wb8 (8 - 1) = 256 := by decide
    omega
theorem sl32 : ∀ n, n < 32 → ((nI n &&& 31).toBitVec.smod 32).toNat = n := by decide +kernel
theorem I_shr {n s : Nat} (h : n < 2 ^ 31) (hs : s < 32) : nI n >>> (nI s &&& 31) = nI (n / 2 ^ s) := pk_shrN h _ s (sl32 s hs)
/-- a CHANCE learns -/
def mvC (sh bt p : Nat) : Nat := if bt = 0 then p + (2048 - p) / 2 ^ sh else p - p / 2 ^ sh
/-- a bit is coded by the CHANCE p -/
def btS (p bt Rg L : Nat) (ca : Option Nat) (Pn : Nat) (bs : List Nat) : ES := if bt = 0 then (Rg / 2048 * p, L, ca, Pn, bs) else (Rg - Rg / 2048 * p, L + Rg / 2048 * p, ca, Pn, bs)
/-- what holds of a message's state between items -/
def eInv (e : ES) : Prop := 16777216 ≤ eR e ∧ eR e < 4294967296 ∧ eL e + eR e ≤ 8589934592 ∧ ∀ x, eC e = some x → x < 256
theorem wd_main : ∀ (c k : Nat) (e : ES), c ≤ 3 → c < k → 256 ^ (3 - c) ≤ eR e → eR e < 4294967296 → eL e + eR e ≤ 8589934592 → (∀ x, eC e = some x → x < 256) → eInv (wdN k e) ∧ eN (wdN k e) ≤ eN e + c := by
  intro c
  induction c with
  | zero =>
    intro k e _ _ h1 h2 h3 h4
    have h5 : 16777216 ≤ eR e := h1
    rw [wdN_e (by omega)]
    exact ⟨⟨h5, h2, h3, h4⟩, Nat.le_refl _⟩
  | succ c ih =>
    intro k e hc hk h1 h2 h3 h4
    by_cases h : eR e < 16777216
    · rw [wdN_s (by omega) h]
      have hp : 256 ^ (3 - c) = 256 ^ (3 - (c + 1)) * 256 := by rw [← Nat.pow_succ]; congr 1; omega
      have hm := Nat.mod_lt (eL e) (show 0 < 16777216 by decide)
      have hp0 : 0 < eR e := Nat.lt_of_lt_of_le (Nat.pow_pos (by decide)) h1
      have hok := eOk_sh (e := (eR e * 256, e.2)) ⟨by show eL e < _; omega, h4⟩
      have q := ih (k - 1) (shS (eR e * 256, e.2)) (by omega) (by omega) (by show _ ≤ eR e * 256; rw [hp]; exact Nat.mul_le_mul_right _ h1) (by show eR e * 256 < _; omega) (by show shL (eL e) + eR e * 256 ≤ _; unfold shL; omega) hok.2
      refine ⟨q.1, ?_⟩
      have q2 := eN_sh (eR e * 256, e.2)
      have q3 : eN (eR e * 256, e.2) = eN e := rfl
      omega
    · rw [wdN_e h]
      exact ⟨⟨by omega, h2, h3, h4⟩, by omega⟩
theorem wd_inv {e : ES} (h1 : 0 < eR e) (h2 : eR e < 4294967296) (h3 : eL e + eR e ≤ 8589934592) (h4 : ∀ x, eC e = some x → x < 256) : eInv (wdS e) ∧ eN (wdS e) ≤ eN e + 3 := wd_main 3 8 e (by decide) (by decide) h1 h2 h3 h4
theorem wd_inv2 {e : ES} (h1 : 256 ≤ eR e) (h2 : eR e < 4294967296) (h3 : eL e + eR e ≤ 8589934592) (h4 : ∀ x, eC e = some x → x < 256) : eInv (wdS e) ∧ eN (wdS e) ≤ eN e + 2 := wd_main 2 8 e (by decide) (by decide) h1 h2 h3 h4
theorem wd_inv1 {e : ES} (h1 : 65536 ≤ eR e) (h2 : eR e < 4294967296) (h3 : eL e + eR e ≤ 8589934592) (h4 : ∀ x, eC e = some x → x < 256) : eInv (wdS e) ∧ eN (wdS e) ≤ eN e + 1 := wd_main 1 8 e (by decide) (by decide) h1 h2 h3 h4
/-- the bits of a VALUE of form 2, k of them still to come -/
def vbN (v : Nat) : Nat → ES → ES
  | 0, e => e
  | k + 1, e => vbN v k (wdS (eR e / 2, (if v / 2 ^ k % 2 = 1 then eL e + eR e / 2 else eL e), e.2.2))
theorem vb_inv {e : ES} (h : eInv e) (b : Prop) [Decidable b] : eInv (wdS (eR e / 2, (if b then eL e + eR e / 2 else eL e), e.2.2)) ∧ eN (wdS (eR e / 2, (if b then eL e + eR e / 2 else eL e), e.2.2)) ≤ eN e + 1 := by
  obtain ⟨h1, h2, h3, h4⟩ := h
  have q := wd_inv1 (e := (eR e / 2, (if b then eL e + eR e / 2 else eL e), e.2.2)) (by show 65536 ≤ eR e / 2; omega) (by show eR e / 2 < _; omega) (by show (if b then eL e + eR e / 2 else eL e) + eR e / 2 ≤ _; split <;> omega) h4
  exact ⟨q.1, q.2⟩
theorem bt_inv {p bt : Nat} {e : ES} (h : eInv e) (hp1 : 1 ≤ p) (hp2 : p ≤ 2047) : eInv (wdS (btS p bt (eR e) (eL e) (eC e) (eP e) (eB e))) ∧ eN (wdS (btS p bt (eR e) (eL e) (eC e) (eP e) (eB e))) ≤ eN e + 2 := by
  obtain ⟨h1, h2, h3, h4⟩ := h
  have q1 : 8192 ≤ eR e / 2048 := by omega
  have q2 : eR e / 2048 * p ≤ eR e / 2048 * 2047 := Nat.mul_le_mul_left _ hp2
  have q3 : eR e / 2048 * 1 ≤ eR e / 2048 * p := Nat.mul_le_mul_left _ hp1
  unfold btS
  generalize eR e / 2048 * p = bb at q2 q3
  split
  · exact wd_inv2 (e := (bb, eL e, eC e, eP e, eB e)) (by show 256 ≤ bb; omega) (by show bb < _; omega) (by show eL e + bb ≤ _; omega) h4
  · exact wd_inv2 (e := (eR e - bb, eL e + bb, eC e, eP e, eB e)) (by show 256 ≤ eR e - bb; omega) (by show eR e - bb < _; omega) (by show eL e + bb + (eR e - bb) ≤ _; omega) h4
theorem mvC_ok {sh bt p : Nat} (hs : 1 ≤ sh) (hp1 : 1 ≤ p) (hp2 : p ≤ 2047) : 1 ≤ mvC sh bt p ∧ mvC sh bt p ≤ 2047 := by
  have h2 : 2 ≤ 2 ^ sh := Nat.pow_le_pow_right (n := 2) (by decide) hs
  have a : p / 2 ^ sh ≤ p / 2 := Nat.div_le_div_left h2 (by decide)
  have b : (2048 - p) / 2 ^ sh ≤ (2048 - p) / 2 := Nat.div_le_div_left h2 (by decide)
  unfold mvC
  generalize p / 2 ^ sh = x at a
  generalize (2048 - p) / 2 ^ sh = y at b
  split <;> omega
/-- the bits of a sign of form 2: NODE, the message's state, the CHANCES -/
def spN (sh s : Nat) : Nat → Nat → ES → (Nat → Nat) → ES × (Nat → Nat)
  | 0, _, e, C => (e, C)
  | k + 1, nd, e, C => spN sh s k (2 * nd + s / 2 ^ k % 2) (wdS (btS (C nd) (s / 2 ^ k % 2) (eR e) (eL e) (eC e) (eP e) (eB e))) (upN C nd (mvC sh (s / 2 ^ k % 2) (C nd)))
theorem nd_st {lv j nd b : Nat} (hj : 1 ≤ j) (hj2 : j ≤ lv) (h : 0 < nd ∧ nd < 2 ^ (lv - j + 1)) (hb : b < 2) : 0 < 2 * nd + b ∧ 2 * nd + b < 2 ^ (lv - (j - 1) + 1) := by
  have z : 2 ^ (lv - (j - 1) + 1) = 2 * 2 ^ (lv - j + 1) := by rw [show lv - (j - 1) + 1 = (lv - j + 1) + 1 by omega, Nat.pow_succ, Nat.mul_comm]
  omega
theorem ch_up {D : Nat → Nat} {nd sh b : Nat} (hs : 1 ≤ sh) (h : ∀ k, k < 64 → 1 ≤ D k ∧ D k ≤ 2047) : ∀ k, k < 64 → 1 ≤ upN D nd (mvC sh b (D nd)) k ∧ upN D nd (mvC sh b (D nd)) k ≤ 2047 := by
  intro k hk
  by_cases e : k = nd
  · subst e; rw [upN_s]; exact mvC_ok hs (h k hk).1 (h k hk).2
  · rw [upN_n _ e]; exact h k hk

