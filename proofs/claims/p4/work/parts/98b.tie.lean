def mT_Carries (n : Nat) (vC vN : Nat → Int32) (j : Nat) (x : MB) : Prop := 2 ≤ n ∧ n ≤ 64 ∧ ∃ (mo ka : Nat) (kf : Nat → Int32) (oo : Nat) (oca opa : Nat) (ocf opf : Nat → Int32) (F : Nat → Nat) (hh : OB), x = (mo, ka, n, kf, (oo, nI n, nI (ns F n), 0, oca, opa, n, ocf, 0, opf), hh) ∧ (∀ k, k < n → kf k = vC (64 * j + k)) ∧ tabI 0 n vN j F ∧ tbI ocf n F
theorem mT_keep_Carries {n a j : Nat} {vC vC2 vN vN2 : Nat → Int32} {x : MB} (h : mT_Carries n vC vN j x) (hC : sgO vC2 vC (64 * a) 64) (hN : sgO vN2 vN (64 * a) 64) (ha : a ≠ j) : mT_Carries n vC2 vN2 j x := by
  obtain ⟨h1, h2, mo, ka, kf, oo, oca, opa, ocf, opf, F, hh, e, q1, q2, q3⟩ := h
  exact ⟨h1, h2, mo, ka, kf, oo, oca, opa, ocf, opf, F, hh, e, fun k hk => by rw [q1 k hk, hC _ (by omega)], tab_keep hN ha h2 q2, q3⟩
theorem mT_TB_Carries {ms : List MB} {N : Nat → Nat} {vC vN : Nat → Int32} (h : ∀ (j : Nat) (x : MB), ms[j]? = some x → mT_Carries (N j) vC vN j x) : TB 0 ms.length N vN := fun j hj => by
  obtain ⟨h1, h2, mo, ka, kf, oo, oca, opa, ocf, opf, F, hh, e, q1, q2, q3⟩ := h j _ (List.getElem?_eq_getElem hj)
  exact ⟨F, q2⟩
theorem pk_Carries {ms : List MB} {N : Nat → Nat} {vC vN : Nat → Int32} {mf : Nat → Option Nat} {j : Nat} (h : ∀ (j : Nat) (x : MB), ms[j]? = some x → mT_Carries (N j) vC vN j x) (hmo : ∀ x ∈ ms, mbOk x) (hmf : mfOk mf ms) (hj : j < ms.length) (h8 : ms.length ≤ 8) : ∃ (a b : List MB) (mo ka : Nat) (kf : Nat → Int32) (oo : Nat) (oca opa : Nat) (ocf opf : Nat → Int32) (F : Nat → Nat) (hh : OB), ms = a ++ (mo, ka, N j, kf, (oo, nI (N j), nI (ns F (N j)), 0, oca, opa, (N j), ocf, 0, opf), hh) :: b ∧ a.length = j ∧ mf j = some mo ∧ obOk hh ∧ 2 ≤ N j ∧ N j ≤ 64 ∧ (∀ k, k < (N j) → kf k = vC (64 * j + k)) ∧ tabI 0 (N j) vN j F ∧ tbI ocf (N j) F := by
  obtain ⟨a, x, b, e, hl⟩ := mb_at hj
  obtain ⟨h1, h2, mo, ka, kf, oo, oca, opa, ocf, opf, F, hh, ex, q⟩ := h j x (by rw [e, ← hl]; exact mb_get)
  have hx := (hmo x (by rw [e]; exact List.mem_append_right _ List.mem_cons_self)).2.2
  have hm : mf j = some x.1 := mf_someE hmf e hl (by omega)
  subst ex
  exact ⟨a, b, mo, ka, kf, oo, oca, opa, ocf, opf, F, hh, e, hl, hm, hx, h1, h2, q⟩
def mT_NoCarries (n : Nat) (vC vN : Nat → Int32) (j : Nat) (x : MB) : Prop := 2 ≤ n ∧ n ≤ 64 ∧ ∃ (mo ka : Nat) (kf : Nat → Int32) (oo : Nat) (oca opa : Nat) (ocf opf : Nat → Int32) (F : Nat → Nat) (hh : OB), x = (mo, ka, n, kf, (oo, nI n, nI (ns F n), 0, oca, opa, n, ocf, 0, opf), hh) ∧ (∀ k, k < n → kf k = vC (64 * j + k)) ∧ tabI 1 n vN j F ∧ tbI ocf n F
theorem mT_keep_NoCarries {n a j : Nat} {vC vC2 vN vN2 : Nat → Int32} {x : MB} (h : mT_NoCarries n vC vN j x) (hC : sgO vC2 vC (64 * a) 64) (hN : sgO vN2 vN (64 * a) 64) (ha : a ≠ j) : mT_NoCarries n vC2 vN2 j x := by
  obtain ⟨h1, h2, mo, ka, kf, oo, oca, opa, ocf, opf, F, hh, e, q1, q2, q3⟩ := h
  exact ⟨h1, h2, mo, ka, kf, oo, oca, opa, ocf, opf, F, hh, e, fun k hk => by rw [q1 k hk, hC _ (by omega)], tab_keep hN ha h2 q2, q3⟩
theorem mT_TB_NoCarries {ms : List MB} {N : Nat → Nat} {vC vN : Nat → Int32} (h : ∀ (j : Nat) (x : MB), ms[j]? = some x → mT_NoCarries (N j) vC vN j x) : TB 1 ms.length N vN := fun j hj => by
  obtain ⟨h1, h2, mo, ka, kf, oo, oca, opa, ocf, opf, F, hh, e, q1, q2, q3⟩ := h j _ (List.getElem?_eq_getElem hj)
  exact ⟨F, q2⟩
theorem pk_NoCarries {ms : List MB} {N : Nat → Nat} {vC vN : Nat → Int32} {mf : Nat → Option Nat} {j : Nat} (h : ∀ (j : Nat) (x : MB), ms[j]? = some x → mT_NoCarries (N j) vC vN j x) (hmo : ∀ x ∈ ms, mbOk x) (hmf : mfOk mf ms) (hj : j < ms.length) (h8 : ms.length ≤ 8) : ∃ (a b : List MB) (mo ka : Nat) (kf : Nat → Int32) (oo : Nat) (oca opa : Nat) (ocf opf : Nat → Int32) (F : Nat → Nat) (hh : OB), ms = a ++ (mo, ka, N j, kf, (oo, nI (N j), nI (ns F (N j)), 0, oca, opa, (N j), ocf, 0, opf), hh) :: b ∧ a.length = j ∧ mf j = some mo ∧ obOk hh ∧ 2 ≤ N j ∧ N j ≤ 64 ∧ (∀ k, k < (N j) → kf k = vC (64 * j + k)) ∧ tabI 1 (N j) vN j F ∧ tbI ocf (N j) F := by
  obtain ⟨a, x, b, e, hl⟩ := mb_at hj
  obtain ⟨h1, h2, mo, ka, kf, oo, oca, opa, ocf, opf, F, hh, ex, q⟩ := h j x (by rw [e, ← hl]; exact mb_get)
  have hx := (hmo x (by rw [e]; exact List.mem_append_right _ List.mem_cons_self)).2.2
  have hm : mf j = some x.1 := mf_someE hmf e hl (by omega)
  subst ex
  exact ⟨a, b, mo, ka, kf, oo, oca, opa, ocf, opf, F, hh, e, hl, hm, hx, h1, h2, q⟩
def mT_Bits (n : Nat) (vC vN : Nat → Int32) (j : Nat) (x : MB) : Prop := 2 ≤ n ∧ n ≤ 64 ∧ ∃ (mo ka : Nat) (kf : Nat → Int32) (oo : Nat) (osm : Int32) (oca opa : Nat) (ocf opf : Nat → Int32) (F : Nat → Nat) (hh : OB), x = (mo, ka, n, kf, (oo, nI n, osm, 1, oca, opa, (2 ^ lev n), ocf, 0, opf), hh) ∧ (∀ k, k < n → kf k = vC (64 * j + k)) ∧ tabI 2 n vN j F ∧ tbI ocf (2 ^ lev n) F
theorem mT_keep_Bits {n a j : Nat} {vC vC2 vN vN2 : Nat → Int32} {x : MB} (h : mT_Bits n vC vN j x) (hC : sgO vC2 vC (64 * a) 64) (hN : sgO vN2 vN (64 * a) 64) (ha : a ≠ j) : mT_Bits n vC2 vN2 j x := by
  obtain ⟨h1, h2, mo, ka, kf, oo, osm, oca, opa, ocf, opf, F, hh, e, q1, q2, q3⟩ := h
  exact ⟨h1, h2, mo, ka, kf, oo, osm, oca, opa, ocf, opf, F, hh, e, fun k hk => by rw [q1 k hk, hC _ (by omega)], tab_keep hN ha h2 q2, q3⟩
theorem mT_TB_Bits {ms : List MB} {N : Nat → Nat} {vC vN : Nat → Int32} (h : ∀ (j : Nat) (x : MB), ms[j]? = some x → mT_Bits (N j) vC vN j x) : TB 2 ms.length N vN := fun j hj => by
  obtain ⟨h1, h2, mo, ka, kf, oo, osm, oca, opa, ocf, opf, F, hh, e, q1, q2, q3⟩ := h j _ (List.getElem?_eq_getElem hj)
  exact ⟨F, q2⟩
theorem pk_Bits {ms : List MB} {N : Nat → Nat} {vC vN : Nat → Int32} {mf : Nat → Option Nat} {j : Nat} (h : ∀ (j : Nat) (x : MB), ms[j]? = some x → mT_Bits (N j) vC vN j x) (hmo : ∀ x ∈ ms, mbOk x) (hmf : mfOk mf ms) (hj : j < ms.length) (h8 : ms.length ≤ 8) : ∃ (a b : List MB) (mo ka : Nat) (kf : Nat → Int32) (oo : Nat) (osm : Int32) (oca opa : Nat) (ocf opf : Nat → Int32) (F : Nat → Nat) (hh : OB), ms = a ++ (mo, ka, N j, kf, (oo, nI (N j), osm, 1, oca, opa, (2 ^ lev (N j)), ocf, 0, opf), hh) :: b ∧ a.length = j ∧ mf j = some mo ∧ obOk hh ∧ 2 ≤ N j ∧ N j ≤ 64 ∧ (∀ k, k < (N j) → kf k = vC (64 * j + k)) ∧ tabI 2 (N j) vN j F ∧ tbI ocf (2 ^ lev (N j)) F := by
  obtain ⟨a, x, b, e, hl⟩ := mb_at hj
  obtain ⟨h1, h2, mo, ka, kf, oo, osm, oca, opa, ocf, opf, F, hh, ex, q⟩ := h j x (by rw [e, ← hl]; exact mb_get)
  have hx := (hmo x (by rw [e]; exact List.mem_append_right _ List.mem_cons_self)).2.2
  have hm : mf j = some x.1 := mf_someE hmf e hl (by omega)
  subst ex
  exact ⟨a, b, mo, ka, kf, oo, osm, oca, opa, ocf, opf, F, hh, e, hl, hm, hx, h1, h2, q⟩
def mT_Stack (n : Nat) (vC vN : Nat → Int32) (j : Nat) (x : MB) : Prop := 2 ≤ n ∧ n ≤ 64 ∧ ∃ (mo ka : Nat) (kf : Nat → Int32) (oo : Nat) (oca opa : Nat) (ocf opf : Nat → Int32) (F : Nat → Nat) (hh : OB), x = (mo, ka, n, kf, (oo, nI n, nI (ns F n), 0, oca, opa, n, ocf, 0, opf), hh) ∧ (∀ k, k < n → kf k = vC (64 * j + k)) ∧ tabI 3 n vN j F ∧ tbI ocf n F
theorem mT_keep_Stack {n a j : Nat} {vC vC2 vN vN2 : Nat → Int32} {x : MB} (h : mT_Stack n vC vN j x) (hC : sgO vC2 vC (64 * a) 64) (hN : sgO vN2 vN (64 * a) 64) (ha : a ≠ j) : mT_Stack n vC2 vN2 j x := by
  obtain ⟨h1, h2, mo, ka, kf, oo, oca, opa, ocf, opf, F, hh, e, q1, q2, q3⟩ := h
  exact ⟨h1, h2, mo, ka, kf, oo, oca, opa, ocf, opf, F, hh, e, fun k hk => by rw [q1 k hk, hC _ (by omega)], tab_keep hN ha h2 q2, q3⟩
theorem mT_TB_Stack {ms : List MB} {N : Nat → Nat} {vC vN : Nat → Int32} (h : ∀ (j : Nat) (x : MB), ms[j]? = some x → mT_Stack (N j) vC vN j x) : TB 3 ms.length N vN := fun j hj => by
  obtain ⟨h1, h2, mo, ka, kf, oo, oca, opa, ocf, opf, F, hh, e, q1, q2, q3⟩ := h j _ (List.getElem?_eq_getElem hj)
  exact ⟨F, q2⟩
theorem pk_Stack {ms : List MB} {N : Nat → Nat} {vC vN : Nat → Int32} {mf : Nat → Option Nat} {j : Nat} (h : ∀ (j : Nat) (x : MB), ms[j]? = some x → mT_Stack (N j) vC vN j x) (hmo : ∀ x ∈ ms, mbOk x) (hmf : mfOk mf ms) (hj : j < ms.length) (h8 : ms.length ≤ 8) : ∃ (a b : List MB) (mo ka : Nat) (kf : Nat → Int32) (oo : Nat) (oca opa : Nat) (ocf opf : Nat → Int32) (F : Nat → Nat) (hh : OB), ms = a ++ (mo, ka, N j, kf, (oo, nI (N j), nI (ns F (N j)), 0, oca, opa, (N j), ocf, 0, opf), hh) :: b ∧ a.length = j ∧ mf j = some mo ∧ obOk hh ∧ 2 ≤ N j ∧ N j ≤ 64 ∧ (∀ k, k < (N j) → kf k = vC (64 * j + k)) ∧ tabI 3 (N j) vN j F ∧ tbI ocf (N j) F := by
  obtain ⟨a, x, b, e, hl⟩ := mb_at hj
  obtain ⟨h1, h2, mo, ka, kf, oo, oca, opa, ocf, opf, F, hh, ex, q⟩ := h j x (by rw [e, ← hl]; exact mb_get)
  have hx := (hmo x (by rw [e]; exact List.mem_append_right _ List.mem_cons_self)).2.2
  have hm : mf j = some x.1 := mf_someE hmf e hl (by omega)
  subst ex
  exact ⟨a, b, mo, ka, kf, oo, oca, opa, ocf, opf, F, hh, e, hl, hm, hx, h1, h2, q⟩
def mT_Table (n : Nat) (vC vN : Nat → Int32) (j : Nat) (x : MB) : Prop := 2 ≤ n ∧ n ≤ 64 ∧ ∃ (mo ka : Nat) (kf : Nat → Int32) (oo : Nat) (oca opa : Nat) (ocf opf : Nat → Int32) (F : Nat → Nat) (hh : OB), x = (mo, ka, n, kf, (oo, nI n, nI (ns F n), 0, oca, opa, n, ocf, 512, opf), hh) ∧ (∀ k, k < n → kf k = vC (64 * j + k)) ∧ tabI 4 n vN j F ∧ tbI ocf n F ∧ layt opf F n (ns F n)
theorem mT_keep_Table {n a j : Nat} {vC vC2 vN vN2 : Nat → Int32} {x : MB} (h : mT_Table n vC vN j x) (hC : sgO vC2 vC (64 * a) 64) (hN : sgO vN2 vN (64 * a) 64) (ha : a ≠ j) : mT_Table n vC2 vN2 j x := by
  obtain ⟨h1, h2, mo, ka, kf, oo, oca, opa, ocf, opf, F, hh, e, q1, q2, q3, q4⟩ := h
  exact ⟨h1, h2, mo, ka, kf, oo, oca, opa, ocf, opf, F, hh, e, fun k hk => by rw [q1 k hk, hC _ (by omega)], tab_keep hN ha h2 q2, q3, q4⟩
theorem mT_TB_Table {ms : List MB} {N : Nat → Nat} {vC vN : Nat → Int32} (h : ∀ (j : Nat) (x : MB), ms[j]? = some x → mT_Table (N j) vC vN j x) : TB 4 ms.length N vN := fun j hj => by
  obtain ⟨h1, h2, mo, ka, kf, oo, oca, opa, ocf, opf, F, hh, e, q1, q2, q3, q4⟩ := h j _ (List.getElem?_eq_getElem hj)
  exact ⟨F, q2⟩
theorem pk_Table {ms : List MB} {N : Nat → Nat} {vC vN : Nat → Int32} {mf : Nat → Option Nat} {j : Nat} (h : ∀ (j : Nat) (x : MB), ms[j]? = some x → mT_Table (N j) vC vN j x) (hmo : ∀ x ∈ ms, mbOk x) (hmf : mfOk mf ms) (hj : j < ms.length) (h8 : ms.length ≤ 8) : ∃ (a b : List MB) (mo ka : Nat) (kf : Nat → Int32) (oo : Nat) (oca opa : Nat) (ocf opf : Nat → Int32) (F : Nat → Nat) (hh : OB), ms = a ++ (mo, ka, N j, kf, (oo, nI (N j), nI (ns F (N j)), 0, oca, opa, (N j), ocf, 512, opf), hh) :: b ∧ a.length = j ∧ mf j = some mo ∧ obOk hh ∧ 2 ≤ N j ∧ N j ≤ 64 ∧ (∀ k, k < (N j) → kf k = vC (64 * j + k)) ∧ tabI 4 (N j) vN j F ∧ tbI ocf (N j) F ∧ layt opf F (N j) (ns F (N j)) := by
  obtain ⟨a, x, b, e, hl⟩ := mb_at hj
  obtain ⟨h1, h2, mo, ka, kf, oo, oca, opa, ocf, opf, F, hh, ex, q⟩ := h j x (by rw [e, ← hl]; exact mb_get)
  have hx := (hmo x (by rw [e]; exact List.mem_append_right _ List.mem_cons_self)).2.2
  have hm : mf j = some x.1 := mf_someE hmf e hl (by omega)
  subst ex
  exact ⟨a, b, mo, ka, kf, oo, oca, opa, ocf, opf, F, hh, e, hl, hm, hx, h1, h2, q⟩
theorem mT_rd_Carries {ms msq : List MB} {N : Nat → Nat} {vC vN : Nat → Int32} {j : Nat} {y : MB} (h : ∀ (j : Nat) (x : MB), ms[j]? = some x → mT_Carries (N j) vC vN j x) (hl : ms.length = msq.length) (hma : msq.map mbA = ms.map mbA) (hs : ∀ (i : Nat) (u v : MB), ms[i]? = some u → msq[i]? = some v → sameS u v) (hy : msq[j]? = some y) : mT_Carries (N j) vC vN j y := by
  have hj : j < ms.length := by rw [hl]; exact (List.getElem?_eq_some_iff.mp hy).1
  have hu := List.getElem?_eq_getElem hj
  generalize ms[j] = u at hu
  obtain ⟨f1, f2, f3⟩ := hs j _ y hu hy
  obtain ⟨h1, h2, mo, ka, kf, oo, oca, opa, ocf, opf, F, hh, e, q⟩ := h j _ hu
  subst e
  obtain ⟨y1, y2, y3, y4, y5, y6⟩ := y
  have e1 : y3 = N j := f1
  have e2 : y4 = kf := f2
  have e3 : y5 = (oo, nI (N j), nI (ns F (N j)), 0, oca, opa, (N j), ocf, 0, opf) := f3
  clear f1 f2 f3
  subst e3; subst e1; subst e2
  exact ⟨h1, h2, y1, y2, y4, oo, oca, opa, ocf, opf, F, y6, rfl, q⟩
theorem mT_bg_Carries {ms msq : List MB} {km : Nat} {N : Nat → Nat} {vMany vC vN vN2 : Nat → Int32} {j : Nat} {y : MB} (hj : j < km) (h : ∀ (j : Nat) (x : MB), ms[j]? = some x → mT_Carries (N j) vC vN j x) (hMD : MD km N vMany vC) (hl : ms.length = msq.length) (hs : ∀ (i : Nat) (u v : MB), ms[i]? = some u → msq[i]? = some v → nw_Carries u v) (hT : pfA 0 km N vC vN2) (hy : msq[j]? = some y) : mT_Carries (N j) vC vN2 j y := by
  have hj2 : j < ms.length := by rw [hl]; exact (List.getElem?_eq_some_iff.mp hy).1
  have hu := List.getElem?_eq_getElem hj2
  generalize ms[j] = u at hu
  obtain ⟨e1, e2, -, e4, e5⟩ := hs j _ y hu hy
  obtain ⟨h1, h2, mo, ka, kf, oo, oca, opa, ocf, opf, F, hh, e, q1, -⟩ := h j _ hu
  have h3 : mK u = N j := by rw [e]
  have h4 : ∀ k, k < N j → mF u k = vC (64 * j + k) := fun k hk => by rw [e]; exact q1 k hk
  have hC := MD_C hMD hj
  have hz := Cx_tb (x := u) (n := N j) (C := Fvw vC j) (fun k hk => by rw [h4 k hk]; exact hC.1 k hk) hC.2
  have ht : sgI vN2 (64 * j) (pfN 0 (N j)) (pf 0 (N j) (Cx u)) := sgI_c (hT j hj) (pf_cg (show 0 < N j by omega) (fun k hk => (hz.1 k hk).symm))
  rw [h3] at e1 e4 e5
  obtain ⟨y1, y2, y3, y4, ⟨o1, o2, o3, o4, o5, o6, o7, o8, o9, o10⟩, y6⟩ := y
  obtain ⟨g1, g2, g3, g4⟩ := e4
  have e1 : y3 = N j := e1
  have e2 : y4 = mF u := e2
  have g1 : o2 = _ := g1
  have g2 : o4 = _ := g2
  have g3 : o7 = _ := g3
  have g4 : o9 = _ := g4
  obtain ⟨f1, f2⟩ := e5
  have f2 : o3 = _ := f2
  subst f2
  subst e1; subst e2; subst g1; subst g2; subst g3; subst g4
  exact ⟨h1, h2, y1, y2, mF u, o1, o5, o6, o8, o10, (les (N j) (Cx u)), y6, rfl, h4, tab_pf (by decide) h2 (by omega) (fun k hk => by rw [hz.1 k hk]; exact hC.2 k hk) ht, f1⟩
theorem mT_rd_NoCarries {ms msq : List MB} {N : Nat → Nat} {vC vN : Nat → Int32} {j : Nat} {y : MB} (h : ∀ (j : Nat) (x : MB), ms[j]? = some x → mT_NoCarries (N j) vC vN j x) (hl : ms.length = msq.length) (hma : msq.map mbA = ms.map mbA) (hs : ∀ (i : Nat) (u v : MB), ms[i]? = some u → msq[i]? = some v → sameS u v) (hy : msq[j]? = some y) : mT_NoCarries (N j) vC vN j y := by
  have hj : j < ms.length := by rw [hl]; exact (List.getElem?_eq_some_iff.mp hy).1
  have hu := List.getElem?_eq_getElem hj
  generalize ms[j] = u at hu
  obtain ⟨f1, f2, f3⟩ := hs j _ y hu hy
  obtain ⟨h1, h2, mo, ka, kf, oo, oca, opa, ocf, opf, F, hh, e, q⟩ := h j _ hu
  subst e
  obtain ⟨y1, y2, y3, y4, y5, y6⟩ := y
  have e1 : y3 = N j := f1
  have e2 : y4 = kf := f2
  have e3 : y5 = (oo, nI (N j), nI (ns F (N j)), 0, oca, opa, (N j), ocf, 0, opf) := f3
  clear f1 f2 f3
  subst e3; subst e1; subst e2
  exact ⟨h1, h2, y1, y2, y4, oo, oca, opa, ocf, opf, F, y6, rfl, q⟩
theorem mT_bg_NoCarries {ms msq : List MB} {km : Nat} {N : Nat → Nat} {vMany vC vN vN2 : Nat → Int32} {j : Nat} {y : MB} (hj : j < km) (h : ∀ (j : Nat) (x : MB), ms[j]? = some x → mT_NoCarries (N j) vC vN j x) (hMD : MD km N vMany vC) (hl : ms.length = msq.length) (hs : ∀ (i : Nat) (u v : MB), ms[i]? = some u → msq[i]? = some v → nw_NoCarries u v) (hT : pfA 1 km N vC vN2) (hy : msq[j]? = some y) : mT_NoCarries (N j) vC vN2 j y := by
  have hj2 : j < ms.length := by rw [hl]; exact (List.getElem?_eq_some_iff.mp hy).1
  have hu := List.getElem?_eq_getElem hj2
  generalize ms[j] = u at hu
  obtain ⟨e1, e2, -, e4, e5⟩ := hs j _ y hu hy
  obtain ⟨h1, h2, mo, ka, kf, oo, oca, opa, ocf, opf, F, hh, e, q1, -⟩ := h j _ hu
  have h3 : mK u = N j := by rw [e]
  have h4 : ∀ k, k < N j → mF u k = vC (64 * j + k) := fun k hk => by rw [e]; exact q1 k hk
  have hC := MD_C hMD hj
  have hz := Cx_tb (x := u) (n := N j) (C := Fvw vC j) (fun k hk => by rw [h4 k hk]; exact hC.1 k hk) hC.2
  have ht : sgI vN2 (64 * j) (pfN 1 (N j)) (pf 1 (N j) (Cx u)) := sgI_c (hT j hj) (pf_cg (show 0 < N j by omega) (fun k hk => (hz.1 k hk).symm))
  rw [h3] at e1 e4 e5
  obtain ⟨y1, y2, y3, y4, ⟨o1, o2, o3, o4, o5, o6, o7, o8, o9, o10⟩, y6⟩ := y
  obtain ⟨g1, g2, g3, g4⟩ := e4
  have e1 : y3 = N j := e1
  have e2 : y4 = mF u := e2
  have g1 : o2 = _ := g1
  have g2 : o4 = _ := g2
  have g3 : o7 = _ := g3
  have g4 : o9 = _ := g4
  obtain ⟨f1, f2⟩ := e5
  have f2 : o3 = _ := f2
  subst f2
  subst e1; subst e2; subst g1; subst g2; subst g3; subst g4
  exact ⟨h1, h2, y1, y2, mF u, o1, o5, o6, o8, o10, (les (N j) (Cx u)), y6, rfl, h4, tab_pf (by decide) h2 (by omega) (fun k hk => by rw [hz.1 k hk]; exact hC.2 k hk) ht, f1⟩
theorem mT_rd_Bits {ms msq : List MB} {N : Nat → Nat} {vC vN : Nat → Int32} {j : Nat} {y : MB} (h : ∀ (j : Nat) (x : MB), ms[j]? = some x → mT_Bits (N j) vC vN j x) (hl : ms.length = msq.length) (hma : msq.map mbA = ms.map mbA) (hs : ∀ (i : Nat) (u v : MB), ms[i]? = some u → msq[i]? = some v → sameS u v) (hy : msq[j]? = some y) : mT_Bits (N j) vC vN j y := by
  have hj : j < ms.length := by rw [hl]; exact (List.getElem?_eq_some_iff.mp hy).1
  have hu := List.getElem?_eq_getElem hj
  generalize ms[j] = u at hu
  obtain ⟨f1, f2, f3⟩ := hs j _ y hu hy
  obtain ⟨h1, h2, mo, ka, kf, oo, osm, oca, opa, ocf, opf, F, hh, e, q⟩ := h j _ hu
  subst e
  obtain ⟨y1, y2, y3, y4, y5, y6⟩ := y
  have e1 : y3 = N j := f1
  have e2 : y4 = kf := f2
  have e3 : y5 = (oo, nI (N j), osm, 1, oca, opa, (2 ^ lev (N j)), ocf, 0, opf) := f3
  clear f1 f2 f3
  subst e3; subst e1; subst e2
  exact ⟨h1, h2, y1, y2, y4, oo, osm, oca, opa, ocf, opf, F, y6, rfl, q⟩
theorem mT_bg_Bits {ms msq : List MB} {km : Nat} {N : Nat → Nat} {vMany vC vN vN2 : Nat → Int32} {j : Nat} {y : MB} (hj : j < km) (h : ∀ (j : Nat) (x : MB), ms[j]? = some x → mT_Bits (N j) vC vN j x) (hMD : MD km N vMany vC) (hl : ms.length = msq.length) (hs : ∀ (i : Nat) (u v : MB), ms[i]? = some u → msq[i]? = some v → nw_Bits u v) (hT : pfA 2 km N vC vN2) (hy : msq[j]? = some y) : mT_Bits (N j) vC vN2 j y := by
  have hj2 : j < ms.length := by rw [hl]; exact (List.getElem?_eq_some_iff.mp hy).1
  have hu := List.getElem?_eq_getElem hj2
  generalize ms[j] = u at hu
  obtain ⟨e1, e2, -, e4, e5⟩ := hs j _ y hu hy
  obtain ⟨h1, h2, mo, ka, kf, oo, osm, oca, opa, ocf, opf, F, hh, e, q1, -⟩ := h j _ hu
  have h3 : mK u = N j := by rw [e]
  have h4 : ∀ k, k < N j → mF u k = vC (64 * j + k) := fun k hk => by rw [e]; exact q1 k hk
  have hC := MD_C hMD hj
  have hz := Cx_tb (x := u) (n := N j) (C := Fvw vC j) (fun k hk => by rw [h4 k hk]; exact hC.1 k hk) hC.2
  have ht : sgI vN2 (64 * j) (pfN 2 (N j)) (pf 2 (N j) (Cx u)) := sgI_c (hT j hj) (pf_cg (show 0 < N j by omega) (fun k hk => (hz.1 k hk).symm))
  rw [h3] at e1 e4 e5
  obtain ⟨y1, y2, y3, y4, ⟨o1, o2, o3, o4, o5, o6, o7, o8, o9, o10⟩, y6⟩ := y
  obtain ⟨g1, g2, g3, g4⟩ := e4
  have e1 : y3 = N j := e1
  have e2 : y4 = mF u := e2
  have g1 : o2 = _ := g1
  have g2 : o4 = _ := g2
  have g3 : o7 = _ := g3
  have g4 : o9 = _ := g4
  have f1 := e5
  subst e1; subst e2; subst g1; subst g2; subst g3; subst g4
  exact ⟨h1, h2, y1, y2, mF u, o1, o3, o5, o6, o8, o10, (fun _ => 1024), y6, rfl, h4, tab_pf (by decide) h2 (by omega) (fun k hk => by rw [hz.1 k hk]; exact hC.2 k hk) ht, f1⟩
theorem mT_rd_Stack {ms msq : List MB} {N : Nat → Nat} {vC vN : Nat → Int32} {j : Nat} {y : MB} (h : ∀ (j : Nat) (x : MB), ms[j]? = some x → mT_Stack (N j) vC vN j x) (hl : ms.length = msq.length) (hma : msq.map mbA = ms.map mbA) (hs : ∀ (i : Nat) (u v : MB), ms[i]? = some u → msq[i]? = some v → sameS u v) (hy : msq[j]? = some y) : mT_Stack (N j) vC vN j y := by
  have hj : j < ms.length := by rw [hl]; exact (List.getElem?_eq_some_iff.mp hy).1
  have hu := List.getElem?_eq_getElem hj
  generalize ms[j] = u at hu
  obtain ⟨f1, f2, f3⟩ := hs j _ y hu hy
  obtain ⟨h1, h2, mo, ka, kf, oo, oca, opa, ocf, opf, F, hh, e, q⟩ := h j _ hu
  subst e
  obtain ⟨y1, y2, y3, y4, y5, y6⟩ := y
  have e1 : y3 = N j := f1
  have e2 : y4 = kf := f2
  have e3 : y5 = (oo, nI (N j), nI (ns F (N j)), 0, oca, opa, (N j), ocf, 0, opf) := f3
  clear f1 f2 f3
  subst e3; subst e1; subst e2
  exact ⟨h1, h2, y1, y2, y4, oo, oca, opa, ocf, opf, F, y6, rfl, q⟩
theorem mT_bg_Stack {ms msq : List MB} {km : Nat} {N : Nat → Nat} {vMany vC vN vN2 : Nat → Int32} {j : Nat} {y : MB} (hj : j < km) (h : ∀ (j : Nat) (x : MB), ms[j]? = some x → mT_Stack (N j) vC vN j x) (hMD : MD km N vMany vC) (hl : ms.length = msq.length) (hs : ∀ (i : Nat) (u v : MB), ms[i]? = some u → msq[i]? = some v → nw_Stack u v) (hT : pfA 3 km N vC vN2) (hy : msq[j]? = some y) : mT_Stack (N j) vC vN2 j y := by
  have hj2 : j < ms.length := by rw [hl]; exact (List.getElem?_eq_some_iff.mp hy).1
  have hu := List.getElem?_eq_getElem hj2
  generalize ms[j] = u at hu
  obtain ⟨e1, e2, -, e4, e5⟩ := hs j _ y hu hy
  obtain ⟨h1, h2, mo, ka, kf, oo, oca, opa, ocf, opf, F, hh, e, q1, -⟩ := h j _ hu
  have h3 : mK u = N j := by rw [e]
  have h4 : ∀ k, k < N j → mF u k = vC (64 * j + k) := fun k hk => by rw [e]; exact q1 k hk
  have hC := MD_C hMD hj
  have hz := Cx_tb (x := u) (n := N j) (C := Fvw vC j) (fun k hk => by rw [h4 k hk]; exact hC.1 k hk) hC.2
  have ht : sgI vN2 (64 * j) (pfN 3 (N j)) (pf 3 (N j) (Cx u)) := sgI_c (hT j hj) (pf_cg (show 0 < N j by omega) (fun k hk => (hz.1 k hk).symm))
  rw [h3] at e1 e4 e5
  obtain ⟨y1, y2, y3, y4, ⟨o1, o2, o3, o4, o5, o6, o7, o8, o9, o10⟩, y6⟩ := y
  obtain ⟨g1, g2, g3, g4⟩ := e4
  have e1 : y3 = N j := e1
  have e2 : y4 = mF u := e2
  have g1 : o2 = _ := g1
  have g2 : o4 = _ := g2
  have g3 : o7 = _ := g3
  have g4 : o9 = _ := g4
  obtain ⟨f1, f2⟩ := e5
  have f2 : o3 = _ := f2
  subst f2
  subst e1; subst e2; subst g1; subst g2; subst g3; subst g4
  exact ⟨h1, h2, y1, y2, mF u, o1, o5, o6, o8, o10, (sc (N j) 4096 (Cx u)), y6, rfl, h4, tab_pf (by decide) h2 (by omega) (fun k hk => by rw [hz.1 k hk]; exact hC.2 k hk) ht, f1⟩
theorem mT_rd_Table {ms msq : List MB} {N : Nat → Nat} {vC vN : Nat → Int32} {j : Nat} {y : MB} (h : ∀ (j : Nat) (x : MB), ms[j]? = some x → mT_Table (N j) vC vN j x) (hl : ms.length = msq.length) (hma : msq.map mbA = ms.map mbA) (hs : ∀ (i : Nat) (u v : MB), ms[i]? = some u → msq[i]? = some v → sameS u v) (hy : msq[j]? = some y) : mT_Table (N j) vC vN j y := by
  have hj : j < ms.length := by rw [hl]; exact (List.getElem?_eq_some_iff.mp hy).1
  have hu := List.getElem?_eq_getElem hj
  generalize ms[j] = u at hu
  obtain ⟨f1, f2, f3⟩ := hs j _ y hu hy
  obtain ⟨h1, h2, mo, ka, kf, oo, oca, opa, ocf, opf, F, hh, e, q⟩ := h j _ hu
  subst e
  obtain ⟨y1, y2, y3, y4, y5, y6⟩ := y
  have e1 : y3 = N j := f1
  have e2 : y4 = kf := f2
  have e3 : y5 = (oo, nI (N j), nI (ns F (N j)), 0, oca, opa, (N j), ocf, 512, opf) := f3
  clear f1 f2 f3
  subst e3; subst e1; subst e2
  exact ⟨h1, h2, y1, y2, y4, oo, oca, opa, ocf, opf, F, y6, rfl, q⟩
theorem mT_bg_Table {ms msq : List MB} {km : Nat} {N : Nat → Nat} {vMany vC vN vN2 : Nat → Int32} {j : Nat} {y : MB} (hj : j < km) (h : ∀ (j : Nat) (x : MB), ms[j]? = some x → mT_Table (N j) vC vN j x) (hMD : MD km N vMany vC) (hl : ms.length = msq.length) (hs : ∀ (i : Nat) (u v : MB), ms[i]? = some u → msq[i]? = some v → nw_Table u v) (hT : pfA 4 km N vC vN2) (hy : msq[j]? = some y) : mT_Table (N j) vC vN2 j y := by
  have hj2 : j < ms.length := by rw [hl]; exact (List.getElem?_eq_some_iff.mp hy).1
  have hu := List.getElem?_eq_getElem hj2
  generalize ms[j] = u at hu
  obtain ⟨e1, e2, -, e4, e5⟩ := hs j _ y hu hy
  obtain ⟨h1, h2, mo, ka, kf, oo, oca, opa, ocf, opf, F, hh, e, q1, -⟩ := h j _ hu
  have h3 : mK u = N j := by rw [e]
  have h4 : ∀ k, k < N j → mF u k = vC (64 * j + k) := fun k hk => by rw [e]; exact q1 k hk
  have hC := MD_C hMD hj
  have hz := Cx_tb (x := u) (n := N j) (C := Fvw vC j) (fun k hk => by rw [h4 k hk]; exact hC.1 k hk) hC.2
  have ht : sgI vN2 (64 * j) (pfN 4 (N j)) (pf 4 (N j) (Cx u)) := sgI_c (hT j hj) (pf_cg (show 0 < N j by omega) (fun k hk => (hz.1 k hk).symm))
  rw [h3] at e1 e4 e5
  obtain ⟨y1, y2, y3, y4, ⟨o1, o2, o3, o4, o5, o6, o7, o8, o9, o10⟩, y6⟩ := y
  obtain ⟨g1, g2, g3, g4⟩ := e4
  have e1 : y3 = N j := e1
  have e2 : y4 = mF u := e2
  have g1 : o2 = _ := g1
  have g2 : o4 = _ := g2
  have g3 : o7 = _ := g3
  have g4 : o9 = _ := g4
  obtain ⟨f1, f2, f3⟩ := e5
  have f2 : o3 = _ := f2
  subst f2
  subst e1; subst e2; subst g1; subst g2; subst g3; subst g4
  exact ⟨h1, h2, y1, y2, mF u, o1, o5, o6, o8, o10, (sc (N j) 512 (Cx u)), y6, rfl, h4, tab_pf (by decide) h2 (by omega) (fun k hk => by rw [hz.1 k hk]; exact hC.2 k hk) ht, f1, f3⟩
theorem mT_ok_Carries {n j : Nat} {vC vN : Nat → Int32} {x : MB} (h : mT_Carries n vC vN j x) (hC : sgI vC (64 * j) n (Fvw vC j) ∧ bd (Fvw vC j) n 4095) : mOk_Carries x := by
  obtain ⟨h1, h2, mo, ka, kf, oo, oca, opa, ocf, opf, F, hh, e, q1, -⟩ := h
  have h4 : ∀ k, k < n → mF x k = vC (64 * j + k) := fun k hk => by rw [e]; exact q1 k hk
  have hz := Cx_tb (x := x) (n := n) (C := Fvw vC j) (fun k hk => by rw [h4 k hk]; exact hC.1 k hk) hC.2
  have h3 : mK x = n := by rw [e]
  refine ⟨by rw [h3]; exact h1, by rw [h3]; exact h2, ?_, by rw [h3]; exact hz.2, by rw [h3]; exact fun k hk => by rw [hz.1 k hk]; exact hC.2 k hk⟩
  rw [h3, e]
  exact ⟨rfl, rfl, rfl, rfl⟩
theorem mT_ok_NoCarries {n j : Nat} {vC vN : Nat → Int32} {x : MB} (h : mT_NoCarries n vC vN j x) (hC : sgI vC (64 * j) n (Fvw vC j) ∧ bd (Fvw vC j) n 4095) : mOk_NoCarries x := by
  obtain ⟨h1, h2, mo, ka, kf, oo, oca, opa, ocf, opf, F, hh, e, q1, -⟩ := h
  have h4 : ∀ k, k < n → mF x k = vC (64 * j + k) := fun k hk => by rw [e]; exact q1 k hk
  have hz := Cx_tb (x := x) (n := n) (C := Fvw vC j) (fun k hk => by rw [h4 k hk]; exact hC.1 k hk) hC.2
  have h3 : mK x = n := by rw [e]
  refine ⟨by rw [h3]; exact h1, by rw [h3]; exact h2, ?_, by rw [h3]; exact hz.2, by rw [h3]; exact fun k hk => by rw [hz.1 k hk]; exact hC.2 k hk⟩
  rw [h3, e]
  exact ⟨rfl, rfl, rfl, rfl⟩
theorem mT_ok_Bits {n j : Nat} {vC vN : Nat → Int32} {x : MB} (h : mT_Bits n vC vN j x) (hC : sgI vC (64 * j) n (Fvw vC j) ∧ bd (Fvw vC j) n 4095) : mOk_Bits x := by
  obtain ⟨h1, h2, mo, ka, kf, oo, osm, oca, opa, ocf, opf, F, hh, e, q1, -⟩ := h
  have h4 : ∀ k, k < n → mF x k = vC (64 * j + k) := fun k hk => by rw [e]; exact q1 k hk
  have hz := Cx_tb (x := x) (n := n) (C := Fvw vC j) (fun k hk => by rw [h4 k hk]; exact hC.1 k hk) hC.2
  have h3 : mK x = n := by rw [e]
  refine ⟨by rw [h3]; exact h1, by rw [h3]; exact h2, ?_, by rw [h3]; exact hz.2, by rw [h3]; exact fun k hk => by rw [hz.1 k hk]; exact hC.2 k hk⟩
  rw [h3, e]
  exact ⟨rfl, rfl, rfl, rfl⟩
theorem mT_ok_Stack {n j : Nat} {vC vN : Nat → Int32} {x : MB} (h : mT_Stack n vC vN j x) (hC : sgI vC (64 * j) n (Fvw vC j) ∧ bd (Fvw vC j) n 4095) : mOk_Stack x := by
  obtain ⟨h1, h2, mo, ka, kf, oo, oca, opa, ocf, opf, F, hh, e, q1, -⟩ := h
  have h4 : ∀ k, k < n → mF x k = vC (64 * j + k) := fun k hk => by rw [e]; exact q1 k hk
  have hz := Cx_tb (x := x) (n := n) (C := Fvw vC j) (fun k hk => by rw [h4 k hk]; exact hC.1 k hk) hC.2
  have h3 : mK x = n := by rw [e]
  refine ⟨by rw [h3]; exact h1, by rw [h3]; exact h2, ?_, by rw [h3]; exact hz.2, by rw [h3]; exact fun k hk => by rw [hz.1 k hk]; exact hC.2 k hk⟩
  rw [h3, e]
  exact ⟨rfl, rfl, rfl, rfl⟩
theorem mT_ok_Table {n j : Nat} {vC vN : Nat → Int32} {x : MB} (h : mT_Table n vC vN j x) (hC : sgI vC (64 * j) n (Fvw vC j) ∧ bd (Fvw vC j) n 4095) : mOk_Table x := by
  obtain ⟨h1, h2, mo, ka, kf, oo, oca, opa, ocf, opf, F, hh, e, q1, -⟩ := h
  have h4 : ∀ k, k < n → mF x k = vC (64 * j + k) := fun k hk => by rw [e]; exact q1 k hk
  have hz := Cx_tb (x := x) (n := n) (C := Fvw vC j) (fun k hk => by rw [h4 k hk]; exact hC.1 k hk) hC.2
  have h3 : mK x = n := by rw [e]
  refine ⟨by rw [h3]; exact h1, by rw [h3]; exact h2, ?_, by rw [h3]; exact hz.2, by rw [h3]; exact fun k hk => by rw [hz.1 k hk]; exact hC.2 k hk⟩
  rw [h3, e]
  exact ⟨rfl, rfl, rfl, rfl⟩
theorem ob_of_Stack {n j : Nat} {vC vN : Nat → Int32} {x : MB} (h : mT_Stack n vC vN j x) (z1 : ns (Fvw vN j) n = 4096) (z2 : sgI vN (64 * j) n (Fvw vN j)) : ob3 (mS x) n (Fvw vN j) := by
  obtain ⟨h1, h2, mo, ka, kf, oo, oca, opa, ocf, opf, F, hh, e, q1, h6, h7⟩ := h
  subst e
  obtain ⟨hs, ht⟩ := tab_3 h6
  have hc := Fv_cg hs (by rcases ht with q | q <;> omega)
  have hf : tbI ocf n (Fvw vN j) := fun k hk => by rw [← hc k hk]; exact h7 k hk
  exact ⟨h2, rfl, rfl, hf, (by decide : 0 ≤ 512)⟩
theorem ob_of_Table {n j : Nat} {vC vN : Nat → Int32} {x : MB} (h : mT_Table n vC vN j x) (z1 : ns (Fvw vN j) n = 512) (z2 : sgI vN (64 * j) n (Fvw vN j)) : ob4 (mS x) n (Fvw vN j) := by
  obtain ⟨h1, h2, mo, ka, kf, oo, oca, opa, ocf, opf, F, hh, e, q1, h6, h7, hl⟩ := h
  subst e
  obtain ⟨hs, ht⟩ := tab_4 h6
  have hc := Fv_cg hs (by rcases ht with q | q <;> omega)
  have hf : tbI ocf n (Fvw vN j) := fun k hk => by rw [← hc k hk]; exact h7 k hk
  refine ⟨h2, rfl, rfl, hf, rfl, fun p hp => ?_⟩
  rw [show ns F n = 512 by rw [ns_cg (fun k hk => hc k hk)]; exact z1] at hl
  rw [← plc_cg hc p]
  exact layt_e hl p hp
theorem sg_cs (z : Int32) {n : Nat} (hn : n ≤ 64) : (z < 0 ∨ nI n ≤ z) ∨ ∃ t, t < n ∧ z = nI t := by
  by_cases h1 : z < 0
  · exact Or.inl (Or.inl h1)
  · by_cases h2 : nI n ≤ z
    · exact Or.inl (Or.inr h2)
    · right
      obtain ⟨t, ht, rfl⟩ := nI_of h1
      exact ⟨t, nI_lt' ht h2, rfl⟩
theorem v_cs (z : Int32) {m : Nat} (hm : m < 2 ^ 31) : (z < 0 ∨ nI m < z) ∨ ∃ c, c ≤ m ∧ z = nI c := by
  by_cases h1 : z < 0
  · exact Or.inl (Or.inl h1)
  · by_cases h2 : nI m < z
    · exact Or.inl (Or.inr h2)
    · right
      obtain ⟨t, ht, rfl⟩ := nI_of h1
      exact ⟨t, (nI_cmp ht hm).mp (Int32.not_lt.mp h2), rfl⟩
theorem nd_cs (z : Int32) {n : Nat} (hn : n ≤ 64) : (z < 1 ∨ z < 0 ∨ nI n ≤ z) ∨ ∃ t, 1 ≤ t ∧ t < n ∧ z = nI t := by
  by_cases h1 : z < 1
  · exact Or.inl (Or.inl h1)
  · rcases sg_cs z hn with q | ⟨t, ht, rfl⟩
    · exact Or.inl (Or.inr q)
    · refine Or.inr ⟨t, ?_, ht, rfl⟩
      rcases Nat.eq_zero_or_pos t with e | e
      · subst e; exact absurd (by decide) h1
      · exact e

