/-! ALL MODELS: what a call does to each of them -/
abbrev mK (x : MB) : Nat := x.2.2.1
abbrev mF (x : MB) : Nat → Int32 := x.2.2.2.1
abbrev mS (x : MB) : OB := x.2.2.2.2.1
abbrev mH (x : MB) : OB := x.2.2.2.2.2
/-- COUNTS as the class has them -/
def Cx (x : MB) : Nat → Nat := fun k => (mF x k).toNatClampNeg
/-- only the odds of the reading may have changed -/
def sameS (x y : MB) : Prop := mK y = mK x ∧ mF y = mF x ∧ mS y = mS x
def bgI (P : MB → MB → Prop) (ms ms9 : List MB) (ii : Nat) : Prop := ∀ (i : Nat) (u v : MB), ms[i]? = some u → ms9[i]? = some v → (i < ii → P u v) ∧ (ii ≤ i → v = u)
theorem bg_0 {P : MB → MB → Prop} (ms : List MB) : bgI P ms ms 0 := fun i u v hu hv => ⟨fun h => absurd h (Nat.not_lt_zero i), fun _ => by rw [hu] at hv; exact (Option.some.inj hv).symm⟩
theorem bg_x {P : MB → MB → Prop} {ms a b : List MB} {x : MB} (h : bgI P ms (a ++ x :: b) a.length) (hl : ms.length = (a ++ x :: b).length) : ms[a.length]? = some x := by
  have hlt : a.length < ms.length := by rw [hl, List.length_append, List.length_cons]; omega
  have e := List.getElem?_eq_getElem hlt
  have q := (h a.length _ x e mb_get).2 (Nat.le_refl _)
  rw [e, q]
theorem bg_st {P : MB → MB → Prop} {ms a b : List MB} {x y : MB} (h : bgI P ms (a ++ x :: b) a.length) (hl : ms.length = (a ++ x :: b).length) (hy : P x y) : bgI P ms (a ++ y :: b) (a.length + 1) := by
  intro i u v hu hv
  by_cases e : i = a.length
  · subst e
    rw [bg_x h hl] at hu
    rw [mb_get] at hv
    cases hu; cases hv
    exact ⟨fun _ => hy, fun z => by omega⟩
  · have hv2 : (a ++ x :: b)[i]? = some v := by
      rcases Nat.lt_or_ge i a.length with q | q
      · rw [List.getElem?_append_left q] at hv ⊢; exact hv
      · rw [List.getElem?_append_right q] at hv ⊢
        obtain ⟨d, hd⟩ : ∃ d, i - a.length = d + 1 := ⟨i - a.length - 1, by omega⟩
        rw [hd, List.getElem?_cons_succ] at hv ⊢
        exact hv
    have q := h i u v hu hv2
    exact ⟨fun z => q.1 (by omega), fun z => q.2 (by omega)⟩
/-- a place where no model is: nothing is done there -/
theorem bg_no {P : MB → MB → Prop} {ms ms9 : List MB} {ii : Nat} (h : bgI P ms ms9 ii) (hl : ms9.length ≤ ii) : bgI P ms ms9 (ii + 1) := fun i u v hu hv =>
  ⟨fun z => by
    have hi : i < ms9.length := (List.getElem?_eq_some_iff.mp hv).1
    exact (h i u v hu hv).1 (by omega), fun z => (h i u v hu hv).2 (by omega)⟩
theorem bg_e {P : MB → MB → Prop} {ms ms9 : List MB} (h : bgI P ms ms9 8) (hl : ms.length ≤ 8) : ∀ (i : Nat) (u v : MB), ms[i]? = some u → ms9[i]? = some v → P u v := fun i u v hu hv => (h i u v hu hv).1 (by have := (List.getElem?_eq_some_iff.mp hu).1; omega)
theorem Cx_tb {x : MB} {n : Nat} {C : Nat → Nat} (h : tbI (mF x) n C) (hb : bd C n 4095) : (∀ k, k < n → Cx x k = C k) ∧ tbI (mF x) n (Cx x) := by
  have e : ∀ k, k < n → Cx x k = C k := fun k hk => by
    unfold Cx
    rw [h k hk]
    exact nI_clamp (by have := hb k hk; omega)
  exact ⟨e, fun k hk => by rw [h k hk, e k hk]⟩
def osh_Carries (n : Nat) (o : OB) : Prop := o.2.1 = nI n ∧ o.2.2.2.1 = 0 ∧ o.2.2.2.2.2.2.1 = n ∧ o.2.2.2.2.2.2.2.2.1 = 0
def oth_Carries (n : Nat) (F : Nat → Nat) (o : OB) : Prop := tbI o.2.2.2.2.2.2.2.1 n (F) ∧ o.2.2.1 = nI (ns (F) n)
def mOk_Carries (x : MB) : Prop := 2 ≤ mK x ∧ mK x ≤ 64 ∧ osh_Carries (mK x) (mS x) ∧ tbI (mF x) (mK x) (Cx x) ∧ bd (Cx x) (mK x) 4095
def nw_Carries (x y : MB) : Prop := mK y = mK x ∧ mF y = mF x ∧ mH y = mH x ∧ osh_Carries (mK x) (mS y) ∧ oth_Carries (mK x) (les (mK x) (Cx x)) (mS y)
def osh_NoCarries (n : Nat) (o : OB) : Prop := o.2.1 = nI n ∧ o.2.2.2.1 = 0 ∧ o.2.2.2.2.2.2.1 = n ∧ o.2.2.2.2.2.2.2.2.1 = 0
def oth_NoCarries (n : Nat) (F : Nat → Nat) (o : OB) : Prop := tbI o.2.2.2.2.2.2.2.1 n (F) ∧ o.2.2.1 = nI (ns (F) n)
def mOk_NoCarries (x : MB) : Prop := 2 ≤ mK x ∧ mK x ≤ 64 ∧ osh_NoCarries (mK x) (mS x) ∧ tbI (mF x) (mK x) (Cx x) ∧ bd (Cx x) (mK x) 4095
def nw_NoCarries (x y : MB) : Prop := mK y = mK x ∧ mF y = mF x ∧ mH y = mH x ∧ osh_NoCarries (mK x) (mS y) ∧ oth_NoCarries (mK x) (les (mK x) (Cx x)) (mS y)
def osh_Bits (n : Nat) (o : OB) : Prop := o.2.1 = nI n ∧ o.2.2.2.1 = 1 ∧ o.2.2.2.2.2.2.1 = (2 ^ lev n) ∧ o.2.2.2.2.2.2.2.2.1 = 0
def oth_Bits (n : Nat) (F : Nat → Nat) (o : OB) : Prop := tbI o.2.2.2.2.2.2.2.1 (2 ^ lev n) (F)
def mOk_Bits (x : MB) : Prop := 2 ≤ mK x ∧ mK x ≤ 64 ∧ osh_Bits (mK x) (mS x) ∧ tbI (mF x) (mK x) (Cx x) ∧ bd (Cx x) (mK x) 4095
def nw_Bits (x y : MB) : Prop := mK y = mK x ∧ mF y = mF x ∧ mH y = mH x ∧ osh_Bits (mK x) (mS y) ∧ oth_Bits (mK x) (fun _ => 1024) (mS y)
def osh_Stack (n : Nat) (o : OB) : Prop := o.2.1 = nI n ∧ o.2.2.2.1 = 0 ∧ o.2.2.2.2.2.2.1 = n ∧ o.2.2.2.2.2.2.2.2.1 = 0
def oth_Stack (n : Nat) (F : Nat → Nat) (o : OB) : Prop := tbI o.2.2.2.2.2.2.2.1 n (F) ∧ o.2.2.1 = nI (ns (F) n)
def mOk_Stack (x : MB) : Prop := 2 ≤ mK x ∧ mK x ≤ 64 ∧ osh_Stack (mK x) (mS x) ∧ tbI (mF x) (mK x) (Cx x) ∧ bd (Cx x) (mK x) 4095
def nw_Stack (x y : MB) : Prop := mK y = mK x ∧ mF y = mF x ∧ mH y = mH x ∧ osh_Stack (mK x) (mS y) ∧ oth_Stack (mK x) (sc (mK x) 4096 (Cx x)) (mS y)
def osh_Table (n : Nat) (o : OB) : Prop := o.2.1 = nI n ∧ o.2.2.2.1 = 0 ∧ o.2.2.2.2.2.2.1 = n ∧ o.2.2.2.2.2.2.2.2.1 = 512
def oth_Table (n : Nat) (F : Nat → Nat) (o : OB) : Prop := tbI o.2.2.2.2.2.2.2.1 n (F) ∧ o.2.2.1 = nI (ns (F) n) ∧ layt o.2.2.2.2.2.2.2.2.2 (F) n (ns (F) n)
def mOk_Table (x : MB) : Prop := 2 ≤ mK x ∧ mK x ≤ 64 ∧ osh_Table (mK x) (mS x) ∧ tbI (mF x) (mK x) (Cx x) ∧ bd (Cx x) (mK x) 4095
def nw_Table (x y : MB) : Prop := mK y = mK x ∧ mF y = mF x ∧ mH y = mH x ∧ osh_Table (mK x) (mS y) ∧ oth_Table (mK x) (sc (mK x) 512 (Cx x)) (mS y)

