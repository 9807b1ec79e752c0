/-! FORM 4: the end -/
def bt2 (wl : List Nat) : Prop := ∀ x ∈ wl, x < 2
theorem bt2_add {wl : List Nat} {x : Nat} (h : bt2 wl) (hx : x < 2) : bt2 (wl ++ [x]) := by
  intro y hy
  rcases List.mem_append.mp hy with q | q
  · exact h y q
  · rw [List.mem_singleton.mp q]; exact hx
theorem bt2_at {wl : List Nat} {i : Nat} (h : bt2 wl) : byA wl i < 2 := by
  show wl.getD i 0 < 2
  rw [List.getD_eq_getElem?_getD]
  rcases Nat.lt_or_ge i wl.length with q | q
  · rw [List.getElem?_eq_getElem q]; exact h _ (List.getElem_mem q)
  · rw [List.getElem?_eq_none q]; decide
def ldOk (km : Nat) (N : Nat → Nat) (vNow : Nat → Int32) (ld : Int32) (so no : Nat → Int32) : Prop := ld = -1 ∨ ∃ mm, mm < km ∧ ld = nI mm ∧ layd so no (Fvw vNow mm) (N mm)
theorem ld_lay {km mm : Nat} {N : Nat → Nat} {vNow so no : Nat → Int32} (hk : km ≤ 8) (hm : mm < km) (h : ldOk km N vNow (nI mm) so no) : layd so no (Fvw vNow mm) (N mm) := by
  rcases h with e | ⟨m2, h1, h2, h3⟩
  · exfalso
    have h9 : (nI mm).toInt = (-1 : Int32).toInt := by rw [e]
    rw [nI_toInt (by omega)] at h9
    have e1 : (-1 : Int32).toInt = -1 := rfl
    omega
  · have e : mm = m2 := nI_inj (by omega) (by omega) h2
    subst e; exact h3
theorem itm_pos {km M bm : Nat} {N : Nat → Nat} {vNow : Nat → Int32} {it : It} (hk : km ≤ 8) (hb : bm ≤ 12) (h : itOk M bm km N vNow it) : (0 ≤ itM it ↔ ¬ it.1 = 0) := by
  unfold itM
  rcases h with ⟨h1, h2, h3, h4⟩ | ⟨h1, h2, h3⟩
  · rw [if_pos h1]
    constructor
    · intro z
      exfalso
      rw [Int32.le_iff_toInt_le, Int32.toInt_neg, nI_toInt (by omega)] at z
      have e0 : (0 : Int32).toInt = 0 := rfl
      rw [e0] at z
      have e2 : (-(it.2.1 : Int)).bmod (2 ^ 32) = -(it.2.1 : Int) := by
        apply Int.bmod_eq_of_le <;> omega
      rw [e2] at z
      omega
    · intro z; exact absurd h1 z
  · rw [if_neg h1]
    exact ⟨fun _ => h1, fun _ => nI_pos' (by omega)⟩
theorem itm_ng {it : It} (h : it.1 = 0) : -itM it = nI it.2.1 := by
  unfold itM
  rw [if_pos h, Int32.neg_neg]
theorem L_shrV {n j : Nat} (h : n < 2 ^ 62) (hj : j < 9) : lN n >>> ((nI j).toInt64 &&& 63) = lN (n / 2 ^ j) := by
  rcases (show j = 0 ∨ j = 1 ∨ j = 2 ∨ j = 3 ∨ j = 4 ∨ j = 5 ∨ j = 6 ∨ j = 7 ∨ j = 8 by omega) with e | e | e | e | e | e | e | e | e <;> subst e
  · exact pf_shr (d := 0) (by decide +kernel) h
  · exact pf_shr (d := 1) (by decide +kernel) h
  · exact pf_shr (d := 2) (by decide +kernel) h
  · exact pf_shr (d := 3) (by decide +kernel) h
  · exact pf_shr (d := 4) (by decide +kernel) h
  · exact pf_shr (d := 5) (by decide +kernel) h
  · exact pf_shr (d := 6) (by decide +kernel) h
  · exact pf_shr (d := 7) (by decide +kernel) h
  · exact pf_shr (d := 8) (by decide +kernel) h
theorem I_shl {n s : Nat} (hs : s < 32) (h : n * 2 ^ s < 2 ^ 32) : nI n <<< (nI s &&& 31) = nI (n * 2 ^ s) := pk_shlN _ s (sl32 s hs) h
theorem pw_lt {b n x : Nat} (hb : b < 2 ^ n) (hx : x < 2) : 2 * b + x < 2 ^ (n + 1) := by
  rw [Nat.pow_succ]; omega
theorem pw8 {b n : Nat} (h1 : b < 2 ^ n) (hn : n ≤ 8) : b * 2 ^ (8 - n) < 256 := by
  have h2 : b * 2 ^ (8 - n) < 2 ^ n * 2 ^ (8 - n) := Nat.mul_lt_mul_of_pos_right h1 (Nat.two_pow_pos _)
  rw [← Nat.pow_add, show n + (8 - n) = 8 by omega] at h2
  exact h2
theorem pw7 {b n : Nat} (h1 : b < 2 ^ n) (hn : n ≤ 8) : b < 256 := Nat.lt_of_lt_of_le h1 (Nat.le_trans (Nat.pow_le_pow_right (by decide) hn) (by decide))
theorem hv_st {V c : Nat} (h : V < 2 ^ (10 - c)) (hc : c < 9) : V / 2 < 2 ^ (10 - (c + 1)) := by
  have e : 10 - c = (10 - (c + 1)) + 1 := by omega
  rw [e, Nat.pow_succ] at h
  omega
theorem hc_lt {V c : Nat} (h : V < 2 ^ (10 - c)) (hc : c ≤ 9) (h2 : 2 ≤ V) : c < 9 := by
  rcases Nat.lt_or_ge c 9 with z | z
  · exact z
  · have e : c = 9 := by omega
    subst e
    have h : V < 2 := h
    omega
theorem hv_lt {V c : Nat} (h : V < 2 ^ (10 - c)) : V < 1024 := Nat.lt_of_lt_of_le h (Nat.le_trans (Nat.pow_le_pow_right (by decide) (show 10 - c ≤ 10 by omega)) (by decide))

