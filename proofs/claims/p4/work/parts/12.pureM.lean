/-! PURE WORDS of a model's numbers: sums, the greatest, halves, scales -/
def ns (F : Nat → Nat) : Nat → Nat
  | 0 => 0
  | k + 1 => ns F k + F k
def upN (F : Nat → Nat) (k v : Nat) : Nat → Nat := fun j => if j = k then v else F j
theorem upN_s (F : Nat → Nat) (k v : Nat) : upN F k v k = v := by simp [upN]
theorem upN_n (F : Nat → Nat) {k v j : Nat} (h : j ≠ k) : upN F k v j = F j := by simp [upN, h]
/-- f holds G from b on, n places -/
def sgI (f : Nat → Int32) (b n : Nat) (G : Nat → Nat) : Prop := ∀ k, k < n → f (b + k) = nI (G k)
/-- but for those places f2 is f -/
def sgO (f2 f : Nat → Int32) (b n : Nat) : Prop := ∀ i, (i < b ∨ b + n ≤ i) → f2 i = f i
def sgL (fL f : Nat → Int32) (b n j : Nat) (G F : Nat → Nat) : Prop := sgI fL b j G ∧ (∀ k, j ≤ k → k < n → fL (b + k) = nI (F k)) ∧ sgO fL f b n
def sgM (fL f : Nat → Int32) (b n j : Nat) (G : Nat → Nat) : Prop := sgI fL b j G ∧ sgO fL f b n
theorem sgO_rf (f : Nat → Int32) (b n : Nat) : sgO f f b n := fun _ _ => rfl
theorem sgO_tr {f3 f2 f : Nat → Int32} {b n : Nat} (h : sgO f3 f2 b n) (h2 : sgO f2 f b n) : sgO f3 f b n := fun i hi => (h i hi).trans (h2 i hi)
theorem sgO_w {f2 f : Nat → Int32} {b n m : Nat} (h : sgO f2 f b n) (hm : n ≤ m) : sgO f2 f b m := fun i hi => h i (by omega)
theorem sgI_w {f : Nat → Int32} {b n m : Nat} {G : Nat → Nat} (h : sgI f b n G) (hm : m ≤ n) : sgI f b m G := fun k hk => h k (by omega)
theorem sgI_c {f : Nat → Int32} {b n : Nat} {G G2 : Nat → Nat} (h : sgI f b n G) (e : ∀ k, k < n → G k = G2 k) : sgI f b n G2 := fun k hk => by rw [h k hk, e k hk]
theorem sgL_0 {f : Nat → Int32} {b n : Nat} {G F : Nat → Nat} (h : sgI f b n F) : sgL f f b n 0 G F := ⟨fun k hk => absurd hk (Nat.not_lt_zero k), fun k _ hk => h k hk, sgO_rf _ _ _⟩
theorem sgL_rd {fL f : Nat → Int32} {b n j : Nat} {G F : Nat → Nat} (h : sgL fL f b n j G F) (hj : j < n) : fL (b + j) = nI (F j) := h.2.1 j (Nat.le_refl _) hj
theorem sgL_st {fL f : Nat → Int32} {b n j i : Nat} {G F : Nat → Nat} {x : Int32} (h : sgL fL f b n j G F) (hj : j < n) (hi : i = b + j) (hx : x = nI (G j)) : sgL (upd fL i x) f b n (j + 1) G F := by
  subst hi
  refine ⟨fun k hk => ?_, fun k hk hk2 => ?_, fun q hq => ?_⟩
  · by_cases e : k = j
    · subst e; rw [pk_us, hx]
    · rw [pk_un (by omega)]; exact h.1 k (by omega)
  · rw [pk_un (by omega)]; exact h.2.1 k (by omega) hk2
  · rw [pk_un (by omega)]; exact h.2.2 q hq
theorem sgL_e {fL f : Nat → Int32} {b n : Nat} {G F : Nat → Nat} (h : sgL fL f b n n G F) : sgI fL b n G ∧ sgO fL f b n := ⟨h.1, h.2.2⟩
theorem sgM_0 (f : Nat → Int32) (b n : Nat) (G : Nat → Nat) : sgM f f b n 0 G := ⟨fun k hk => absurd hk (Nat.not_lt_zero k), sgO_rf _ _ _⟩
theorem sgM_st {fL f : Nat → Int32} {b n j i : Nat} {G : Nat → Nat} {x : Int32} (h : sgM fL f b n j G) (hj : j < n) (hi : i = b + j) (hx : x = nI (G j)) : sgM (upd fL i x) f b n (j + 1) G := by
  subst hi
  refine ⟨fun k hk => ?_, fun q hq => ?_⟩
  · by_cases e : k = j
    · subst e; rw [pk_us, hx]
    · rw [pk_un (by omega)]; exact h.1 k (by omega)
  · rw [pk_un (by omega)]; exact h.2 q hq
/-- one place of a segment -/
theorem sg_up {f : Nat → Int32} {b n j i : Nat} {F : Nat → Nat} {x : Int32} {v : Nat} (h : sgI f b n F) (hj : j < n) (hi : i = b + j) (hx : x = nI v) : sgI (upd f i x) b n (upN F j v) ∧ sgO (upd f i x) f b n := by
  subst hi
  refine ⟨fun k hk => ?_, fun q hq => pk_un (by omega)⟩
  by_cases e : k = j
  · subst e; rw [pk_us, upN_s, hx]
  · rw [pk_un (by omega), upN_n _ e]; exact h k hk
def bd (F : Nat → Nat) (n B : Nat) : Prop := ∀ k, k < n → F k ≤ B
theorem ns_le {F : Nat → Nat} {B : Nat} : ∀ {n : Nat}, bd F n B → ns F n ≤ n * B
  | 0, _ => by simp [ns]
  | n + 1, h => by
    have h1 := ns_le (n := n) (fun k hk => h k (by omega))
    have h2 := h n (by omega)
    rw [ns, Nat.succ_mul]
    omega
theorem ns_le64 {F : Nat → Nat} {B n : Nat} (hn : n ≤ 64) (h : bd F n B) : ns F n ≤ 64 * B := Nat.le_trans (ns_le h) (Nat.mul_le_mul_right B hn)
theorem ns_up {F : Nat → Nat} {j v : Nat} : ∀ {n : Nat}, j < n → ns (upN F j v) n + F j = ns F n + v
  | 0, h => absurd h (Nat.not_lt_zero _)
  | n + 1, h => by
    by_cases e : j = n
    · subst e
      have : ∀ m, m ≤ j → ns (upN F j v) m = ns F m := by
        intro m
        induction m with
        | zero => intro _; rfl
        | succ m ih => intro hm; rw [ns, ns, ih (by omega), upN_n _ (by omega)]
      rw [ns, ns, this j (Nat.le_refl _), upN_s]; omega
    · have := ns_up (F := F) (v := v) (n := n) (by omega : j < n)
      rw [ns, ns, upN_n F (by omega : n ≠ j)]; omega
theorem ns_pos {F : Nat → Nat} : ∀ {n : Nat}, 0 < ns F n → ∃ k, k < n ∧ 0 < F k
  | 0, h => absurd h (by simp [ns])
  | n + 1, h => by
    rw [ns] at h
    by_cases e : 0 < F n
    · exact ⟨n, by omega, e⟩
    · obtain ⟨k, h1, h2⟩ := ns_pos (F := F) (n := n) (by omega)
      exact ⟨k, by omega, h2⟩
theorem ns_ge {F : Nat → Nat} {j : Nat} : ∀ {n : Nat}, j < n → F j ≤ ns F n
  | 0, h => absurd h (Nat.not_lt_zero _)
  | n + 1, h => by
    rw [ns]
    by_cases e : j = n
    · subst e; omega
    · have := ns_ge (F := F) (n := n) (by omega : j < n); omega
/-- the greatest, of several the first -/
def gr (F : Nat → Nat) : Nat → Nat
  | 0 => 0
  | k + 1 => if F (gr F k) < F k then k else gr F k
theorem gr_lt (F : Nat → Nat) : ∀ {n : Nat}, 0 < n → gr F n < n
  | 0, h => absurd h (Nat.not_lt_zero _)
  | n + 1, _ => by
    rw [gr]
    split
    · omega
    · by_cases e : 0 < n
      · have := gr_lt F e; omega
      · have : n = 0 := by omega
        subst this; simp [gr]
theorem gr_ge (F : Nat → Nat) : ∀ {n k : Nat}, k < n → F k ≤ F (gr F n)
  | 0, _, h => absurd h (Nat.not_lt_zero _)
  | n + 1, k, h => by
    rw [gr]
    by_cases e : k = n
    · subst e; split <;> omega
    · have := gr_ge F (n := n) (by omega : k < n)
      split <;> omega
theorem gr_pos {F : Nat → Nat} {n : Nat} (h : 0 < ns F n) : 0 < F (gr F n) := by
  obtain ⟨k, h1, h2⟩ := ns_pos h
  exact Nat.lt_of_lt_of_le h2 (gr_ge F h1)
def hv (F : Nat → Nat) : Nat → Nat := fun k => (F k + 1) / 2
def lesN (n : Nat) : Nat → (Nat → Nat) → (Nat → Nat)
  | 0, F => F
  | r + 1, F => if ns F n ≤ 8192 then F else lesN n r (hv F)
/-- as long as the sum is above 8192, halves -/
def les (n : Nat) (F : Nat → Nat) : Nat → Nat := lesN n 32 F
/-- what a COUNT can be after so many halvings -/
def lb (r : Nat) : Nat := if 32 ≤ r then 4095 else if r = 31 then 2048 else if r = 30 then 1024 else if r = 29 then 512 else if r = 28 then 256 else 128
theorem lb_st {r x : Nat} (h0 : 27 < r) (h1 : r ≤ 32) (h : x ≤ lb r) : (x + 1) / 2 ≤ lb (r - 1) := by
  have hr : r = 28 ∨ r = 29 ∨ r = 30 ∨ r = 31 ∨ r = 32 := by omega
  rcases hr with e | e | e | e | e <;> subst e <;> simp [lb] at h ⊢ <;> omega
theorem lesN_e {n r : Nat} {F : Nat → Nat} (h : ns F n ≤ 8192) : lesN n r F = F := by
  cases r with
  | zero => rfl
  | succ r => rw [lesN, if_pos h]
theorem lesN_s {n r : Nat} {F : Nat → Nat} (h0 : 0 < r) (h : ¬ ns F n ≤ 8192) : lesN n r F = lesN n (r - 1) (hv F) := by
  cases r with
  | zero => omega
  | succ r => rw [lesN, if_neg h]; rfl
def lrn (n t : Nat) (F : Nat → Nat) : Nat → Nat := if ns (upN F t (F t + 32)) n ≤ 8192 then upN F t (F t + 32) else hv (upN F t (F t + 32))
def scG (n M : Nat) (F : Nat → Nat) : Nat → Nat := fun k => if F k = 0 then 0 else if F k * M / ns F n < 1 then 1 else F k * M / ns F n
def dec (n : Nat) : Nat → (Nat → Nat) → (Nat → Nat)
  | 0, G => G
  | e + 1, G => dec n e (upN G (gr G n) (G (gr G n) - 1))
def scE (n M : Nat) (G : Nat → Nat) : Nat → Nat := upN G (gr G n) (G (gr G n) + (M - ns G n))
/-- SCALED to M -/
def sc (n M : Nat) (F : Nat → Nat) : Nat → Nat := if ns F n = 0 then F else scE n M (dec n (ns (scG n M F) n - M) (scG n M F))
theorem nI_cmp {a b : Nat} (ha : a < 2 ^ 31) (hb : b < 2 ^ 31) : nI a ≤ nI b ↔ a ≤ b := nI_leI ha hb
theorem one_ne {r : Int32} {P : Prop} [Decidable P] (h : r = if P then 1 else 0) (c : ¬ r = 0) : P := by
  by_cases hp : P
  · exact hp
  · rw [if_neg hp] at h; exact absurd h c
theorem one_eq {r : Int32} {P : Prop} [Decidable P] (h : r = if P then 1 else 0) (c : r = 0) : ¬ P := by
  intro hp
  rw [if_pos hp] at h
  rw [h] at c
  exact absurd c (by decide)
/-- a model's or a sign's number -/
abbrev isN (k : Nat) (p : Int32) : Prop := 0 ≤ p ∧ p ≤ nI k - 1
theorem isN_iff {k : Nat} {p : Int32} (hk : k < 2 ^ 30) : isN k p ↔ ∃ j, j < k ∧ p = nI j := by
  constructor
  · rintro ⟨h0, h1⟩
    obtain ⟨j, hj, rfl⟩ := nI_of (Int32.not_lt.mpr h0)
    refine ⟨j, ?_, rfl⟩
    cases k with
    | zero => rw [Int32.le_iff_toInt_le, nI_toInt hj] at h1; have : ((nI 0 - 1 : Int32)).toInt = -1 := by decide
              rw [this] at h1; omega
    | succ k => rw [nI_pred] at h1; have := (nI_leI hj (by omega)).mp h1; omega
  · rintro ⟨j, hj, rfl⟩
    refine ⟨nI_pos' (by omega), ?_⟩
    cases k with
    | zero => omega
    | succ k => rw [nI_pred]; exact nI_le (by omega) (by omega)
/-- how many levels a model of n signs has -/
def lev (n : Nat) : Nat := if n ≤ 1 then 0 else if n ≤ 2 then 1 else if n ≤ 4 then 2 else if n ≤ 8 then 3 else if n ≤ 16 then 4 else if n ≤ 32 then 5 else 6
theorem lev_of {n j : Nat} (hj : j ≤ 6) (h : n ≤ 2 ^ j) (h2 : 0 < j → 2 ^ (j - 1) < n) : j = lev n := by
  have hh : j = 0 ∨ j = 1 ∨ j = 2 ∨ j = 3 ∨ j = 4 ∨ j = 5 ∨ j = 6 := by omega
  unfold lev
  rcases hh with e | e | e | e | e | e | e <;> subst e <;> simp at h h2 <;> repeat (first | omega | split)
theorem shl1 : ∀ j, j < 31 → (1 : Int32) <<< (nI j &&& 31) = nI (2 ^ j) := by decide +kernel
theorem scG_le {n M : Nat} {F : Nat → Nat} (hM : 1 ≤ M) : bd (scG n M F) n M := by
  intro k hk
  unfold scG
  split
  · omega
  · split
    · exact hM
    · have h1 := ns_ge (F := F) hk
      have h2 : F k * M / ns F n ≤ ns F n * M / ns F n := Nat.div_le_div_right (Nat.mul_le_mul_right M h1)
      rcases Nat.eq_zero_or_pos (ns F n) with e | e
      · rw [e]; simp
      · rw [Nat.mul_div_cancel_left M e] at h2; exact h2
theorem dec_bd {n B : Nat} {G : Nat → Nat} (h : bd G n B) : bd (upN G (gr G n) (G (gr G n) - 1)) n B := by
  intro k hk
  by_cases e : k = gr G n
  · subst e; rw [upN_s]; have := h _ hk; omega
  · rw [upN_n _ e]; exact h k hk
theorem dec_ns {n : Nat} {G : Nat → Nat} (hn : 0 < n) (h : 0 < ns G n) : ns (upN G (gr G n) (G (gr G n) - 1)) n = ns G n - 1 := by
  have h1 := ns_up (F := G) (v := G (gr G n) - 1) (gr_lt G hn)
  have h2 := gr_pos h
  omega
theorem dec_st {n M : Nat} {G : Nat → Nat} (hn : 0 < n) (h : M < ns G n) : dec n (ns G n - M) G = dec n (ns (upN G (gr G n) (G (gr G n) - 1)) n - M) (upN G (gr G n) (G (gr G n) - 1)) := by
  rw [dec_ns hn (by omega)]
  have e : ns G n - M = (ns G n - 1 - M) + 1 := by omega
  rw [e, dec]
theorem dec_0 {n M : Nat} {G : Nat → Nat} (h : ns G n ≤ M) : dec n (ns G n - M) G = G := by
  have e : ns G n - M = 0 := by omega
  rw [e, dec]
theorem ns_m (F : Nat → Nat) {t : Nat} : ∀ {n : Nat}, t ≤ n → ns F t ≤ ns F n
  | 0, h => by have : t = 0 := by omega
               subst this; exact Nat.le_refl _
  | n + 1, h => by
    by_cases e : t = n + 1
    · subst e; exact Nat.le_refl _
    · have := ns_m F (n := n) (by omega : t ≤ n)
      rw [ns]; omega
theorem ns_m1 (F : Nat → Nat) {t n : Nat} (h : t < n) : ns F t + F t ≤ ns F n := ns_m F (t := t + 1) h

