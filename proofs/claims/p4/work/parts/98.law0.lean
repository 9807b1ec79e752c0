/-! THE LAW: what both objects are between two calls -/
theorem mo_cs (z : Int32) : (z < 2 ∨ 64 < z) ∨ ∃ ns, 2 ≤ ns ∧ ns ≤ 64 ∧ z = nI ns := by
  by_cases h1 : z < 2
  · exact Or.inl (Or.inl h1)
  · by_cases h2 : 64 < z
    · exact Or.inl (Or.inr h2)
    · right
      obtain ⟨n, a, b, e⟩ := in_of2 (a := 2) (b := 64) (p := z) (by decide) (by decide) ⟨Int32.not_lt.mp h1, Int32.not_lt.mp h2⟩
      exact ⟨n, a, b, e⟩
theorem md_cs (z : Int32) {k : Nat} (hk : k ≤ 8) : (z < 0 ∨ nI k ≤ z) ∨ ∃ j, j < k ∧ z = nI j := by
  by_cases h1 : z < 0
  · exact Or.inl (Or.inl h1)
  · by_cases h2 : nI k ≤ z
    · exact Or.inl (Or.inr h2)
    · right
      rw [Int32.lt_iff_toInt_lt] at h1
      rw [Int32.le_iff_toInt_le, nI_toInt (by omega)] at h2
      have e0 : (0 : Int32).toInt = 0 := rfl
      refine ⟨z.toInt.toNat, by omega, ?_⟩
      apply Int32.toInt_inj.mp
      rw [nI_toInt (by omega)]
      omega
theorem mb_push (cI : ClassId) (X : va_W) (ms : List MB) (x : MB) : ((X ++ mbC cI x) ++ mbsC cI ms).Perm (X ++ mbsC cI (ms ++ [x])) := by
  have h := mb_out cI X ms [] x
  have e : mbsC cI ([] : List MB) = [] := rfl
  rw [e, List.append_nil] at h
  exact h
theorem mf_push {mf : Nat → Option Nat} {ms : List MB} {x : MB} (h : mfOk mf ms) (h8 : ms.length < 8) : mfOk (va_up mf ms.length (some x.1)) (ms ++ [x]) := by
  intro i hi
  by_cases e : i = ms.length
  · subst e
    rw [va_up_self, mb_get (a := ms) (b := []) (x := x)]
    rfl
  · rw [va_up_ne _ _ e, h i hi]
    rcases Nat.lt_or_ge i ms.length with q | q
    · rw [List.getElem?_append_left q]
    · rw [List.getElem?_eq_none (by omega), List.getElem?_eq_none (by rw [List.length_append, List.length_singleton]; omega)]
theorem ok_push {ms : List MB} {x : MB} (h : ∀ y ∈ ms, mbOk y) (hx : mbOk x) : ∀ y ∈ ms ++ [x], mbOk y := by
  intro y hy
  rcases List.mem_append.mp hy with q | q
  · exact h y q
  · rw [List.mem_singleton.mp q]; exact hx
theorem pm_ca {α : Type} (a b c : List α) : (a ++ (b ++ c)).Perm (b ++ (a ++ c)) := by
  rw [← List.append_assoc, ← List.append_assoc]
  exact List.Perm.append_right _ List.perm_append_comm
theorem pm_5 {α : Type} (P Hd O1 O2 Q : List α) : (P ++ ((Hd ++ (O1 ++ O2)) ++ Q)).Perm (O1 ++ (Hd ++ (O2 ++ (P ++ Q)))) := by
  rw [List.append_assoc Hd, List.append_assoc O1]
  refine (pm_ca P Hd _).trans ?_
  refine ((pm_ca P O1 _).append_left Hd).trans ?_
  refine (pm_ca Hd O1 _).trans ?_
  exact (((pm_ca P O2 Q).append_left Hd).append_left O1)
def mbH (cI : ClassId) (x : MB) : va_W := [(x.1, Sum.inr (8, [Value.ref x.2.1, Value.ref x.2.2.2.2.1.1, Value.ref x.2.2.2.2.2.1])), (x.2.1, Sum.inl (cI, x.2.2.1, Sum.inl x.2.2.2.1))]
theorem mb_outE {cI : ClassId} {ms a b : List MB} {x : MB} (X : va_W) (e : ms = a ++ x :: b) : ((X ++ mbC cI x) ++ (mbsC cI a ++ mbsC cI b)).Perm (X ++ mbsC cI ms) := by
  subst e; exact mb_out cI X a b x
theorem mf_someE {mf : Nat → Option Nat} {ms a b : List MB} {x : MB} {j : Nat} (h : mfOk mf ms) (e : ms = a ++ x :: b) (hl : a.length = j) (h8 : j < 8) : mf j = some x.1 := by
  subst e; subst hl; exact mf_some h h8
theorem mb_setE {ms a b : List MB} {x y : MB} (e : ms = a ++ x :: b) (h : mbA y = mbA x) : (a ++ y :: b).map mbA = ms.map mbA := by
  subst e; exact mb_set h
theorem ok_setE {ms a b : List MB} {x y : MB} (h : ∀ z ∈ ms, mbOk z) (e : ms = a ++ x :: b) (hy : mbOk y) : ∀ z ∈ a ++ y :: b, mbOk z := by
  subst e; exact ok_set h hy
theorem MI3_new {M bm km ns : Nat} {N : Nat → Nat} {fItems fGoes : Int32} {vIM vIW vNow f2 : Nat → Int32} (h : MI3 M bm km N fItems fGoes vIM vIW vNow) (hN : ∀ i, i < km → N i ≤ 64) (ho : sgO f2 vNow (64 * km) 64) : MI3 M bm (km + 1) (upN N km ns) fItems fGoes vIM vIW f2 := by
  obtain ⟨its, h1, h2, h3, h4, h5⟩ := h
  refine ⟨its, h1, h2, h3, h4, fun i hlt => ?_⟩
  rcases h5 i hlt with q | ⟨q1, q2, q3, q4, q5, q6⟩
  · exact Or.inl q
  · generalize hit : itA its i = it at q1 q2 q3 q4 q5 q6 ⊢
    have hn := hN _ q2
    have hne : it.2.1 ≠ km := by omega
    have hF : ∀ k, k < N it.2.1 → Fvw f2 it.2.1 k = Fvw vNow it.2.1 k := fun k hk => by
      unfold Fvw
      rw [ho _ (by omega)]
    rw [show upN N km ns = upN N km ns from rfl]
    refine Or.inr ⟨q1, by omega, by rw [upN_n _ hne]; exact q3, ?_, ?_, ?_⟩
    · rw [hF _ q3]; exact q4
    · rw [upN_n _ hne, ns_cg hF]; exact q5
    · rw [upN_n _ hne]
      intro k hk
      rw [ho _ (by omega), q6 k hk, hF k hk]
/-! the law's own helper -/
def cellV (L : Nat) (xs : Nat → Int32) (k : Int32) : Int32 := if nI L ≤ k then 0 else xs k.toNatClampNeg
theorem d_cell_0 : decode method_2_code 0 = .ok (.iload_n 1, 1) := by decide +kernel
theorem d_cell_1 : decode method_2_code 1 = .ok (.aload_n 0, 1) := by decide +kernel
theorem d_cell_2 : decode method_2_code 2 = .ok (.arraylength, 1) := by decide +kernel
theorem d_cell_3 : decode method_2_code 3 = .ok (.if_icmp .ge 9, 3) := by decide +kernel
theorem d_cell_6 : decode method_2_code 6 = .ok (.aload_n 0, 1) := by decide +kernel
theorem d_cell_7 : decode method_2_code 7 = .ok (.iload_n 1, 1) := by decide +kernel
theorem d_cell_8 : decode method_2_code 8 = .ok (.iaload, 1) := by decide +kernel
theorem d_cell_9 : decode method_2_code 9 = .ok (.goto 4, 3) := by decide +kernel
theorem d_cell_12 : decode method_2_code 12 = .ok (.iconst 0, 1) := by decide +kernel
theorem d_cell_13 : decode method_2_code 13 = .ok (.ireturn, 1) := by decide +kernel
def cellP (b L : Nat) (xs : Nat → Int32) (k : Int32) (sz : Nat) (U : State) : Prop := U.heap.size = sz ∧ va_X b L xs U U.heap ∧ L < 2 ^ 31 ∧ ¬ k < 0
theorem c_cell (l : Launch) (b L : Nat) (xs : Nat → Int32) (k : Int32) (sz : Nat) : Met l y_Law_cell (Cond.code y_Law_cell method_2_code 2 (some .int) :: gw) ({ frames := 0, cells := 0, slots := 0, locals := 0 } : Room) (va_Pc [Value.ref b, Value.int k] (cellP b L xs k sz)) (va_Qi (S := Unit) (fun r _ => r = cellV L xs k) (fun _ _ => True) (fun q => sz ≤ q)) 0 0 (fun q => sz ≤ q) := by
  refine Met.ofW (cc := method_2_code) (maxL := 2) (ret := some .int) (by decide) rfl ?_
  intro p e s m args below meth c s₁ B hml hv
  obtain ⟨ha, hsz, hX, hL, hk⟩ := hv
  subst hsz
  have hx := B.exec
  have hb := B.bytes
  have hr := B.returns
  have hlocks := B.notSynchronized
  have hbl : b < s.heap.size := by
    obtain ⟨scr, h1, -⟩ := hX
    exact (Array.getElem?_eq_some_iff.mp h1).1
  have hbA : ¬ (fun q : Nat => s.heap.size ≤ q) b := Nat.not_le.mpr hbl
  have hS : va_S (fun q : Nat => s.heap.size ≤ q) s.heap s.heap [] := va_S.rf
  have hl := lv_entry ([Value.ref b, Value.int k]) (n := 2) (Nat.le_of_ble_eq_true rfl)
  refine W.eq (g2 := F0 m 0 ((lg_sl [Value.ref b, Value.int k] ++ List.replicate (2 - (lg_sl [Value.ref b, Value.int k]).length) Slot.unset).toArray) []) (by rw [ha]; exact lg_entry_eq m [Value.ref b, Value.int k] 2) ?_
  generalize (lg_sl ([Value.ref b, Value.int k] : List Value) ++ List.replicate (2 - (lg_sl ([Value.ref b, Value.int k] : List Value)).length) Slot.unset).toArray = ls at hl ⊢
  have hl : lv_has ls 2 [(0, Value.ref b), (1, Value.int k)] := hl
  refine lv_iload_n hx hb d_cell_0 rfl (lv_at hl 1 rfl) ?_
  refine lv_aload_n hx hb d_cell_1 rfl (lv_at hl 0 rfl) ?_
  refine va_slen hx hb hX hbl hbA hS d_cell_2 ?_
  refine lv_icmp_ge (tgt := 12) hx hb d_cell_3 (by decide) (fun c1 => ?_) (fun c1 => ?_)
  · refine lv_iconst (v := 0) hx hb d_cell_12 (by decide) ?_
    exact W.zret (v := 0) hx hb hr rfl (fun t ht hW => ⟨⟨0, (), rfl, show (0 : Int32) = cellV L xs k from by unfold cellV; rw [if_pos (show nI L ≤ k from c1)], trivial⟩, hS.F ht⟩) (fun q hq => absurd hq List.not_mem_nil) d_cell_13 hlocks
  · refine lv_aload_n hx hb d_cell_6 rfl (lv_at hl 0 rfl) ?_
    refine lv_iload_n hx hb d_cell_7 rfl (lv_at hl 1 rfl) ?_
    refine va_sld hx hb hX hbl hbA hS (I_in' hL hk c1) d_cell_8 ?_
    refine lv_goto (tgt := 13) hx hb d_cell_9 (by decide) ?_
    exact W.zret (v := xs k.toNatClampNeg) hx hb hr rfl (fun t ht hW => ⟨⟨_, (), rfl, show xs k.toNatClampNeg = cellV L xs k from by unfold cellV; rw [if_neg (show ¬ nI L ≤ k from c1)], trivial⟩, hS.F ht⟩) (fun q hq => absurd hq List.not_mem_nil) d_cell_13 hlocks
theorem cell_pre {b L : Nat} {xs : Nat → Int32} {k : Int32} {s : State} {H : Heap} (hX : va_X b L xs s H) (hL : L < 2 ^ 31) (hk : ¬ k < 0) : FrameBlind (va_Pc [Value.ref b, Value.int k] (cellP b L xs k H.size)) ∧ ∀ U : State, U.heap = H → s.WarmedH U.vm → va_Pc [Value.ref b, Value.int k] (cellP b L xs k H.size) ([Value.ref b, Value.int k] : List Value).toArray U :=
  ⟨fun a U g mk q => ⟨q.1, q.2.1, va_X.moved (u := U) (U := U.calling g mk a) (Vm.Alike.refl U.vm) q.2.2.1, q.2.2.2⟩, fun U hU hW => ⟨rfl, by rw [hU], by rw [hU]; exact va_X.moved hW.alike hX, hL, hk⟩⟩
theorem cell_call {p : Program} {l : Launch} {e : Env} {R : Room} {s : State} {m : MethodId} {args : Array Value} {below : List Frame} {meth : Method} {c : Code} {H : Heap} {locs : List Loc} {cells slots : Nat} {Q : State → Prop} {pc : Nat} {ls : Array Slot} {rest : List Value} {D : va_G} {cl : List vw_C} {ws : va_W} {A : Nat → Prop} {b L : Nat} {xs : Nat → Int32}
    (hx : p.tables.exec = Jvm.exec) (hb : c.code = code) (hml : c.maxLocals = 4) (hown : s.vm.findClass "RangeCodersLaw" = some m.cls) (hg : ∀ w ∈ gw, w.before args s = true) (hR : R = room_1) (hX : va_X b L xs s s.heap) (hbl : b < s.heap.size) (hbA : ¬ A b) (hL : L < 2 ^ 31) (hP : va_P D cl ws H) (hS : va_S A s.heap H locs) (hA : ∀ q : Nat, s.heap.size ≤ q → A q) {k : Int32} (hk : ¬ k < 0) (hrest : 2 * (F0 m pc ls (.int k :: .ref b :: rest)).monitorRoom + (rest.map fun v => v.category).sum ≤ 8) (hls : ls.size = 4) (hc : cells ≤ 600000) (hs : slots ≤ 7302250) (hdg : decode code pc = .ok (.invokestatic 9, 3))
    (kk : ∀ (H1 : Heap) (locs1 : List Loc), va_P D cl ws H1 → va_S A s.heap H1 locs1 → W p l e R s m args below meth c H1 locs1 cells slots Q (F0 m (pc + 3) ls (.int (cellV L xs k) :: rest))) : W p l e R s m args below meth c H locs cells slots Q (F0 m pc ls (.int k :: .ref b :: rest)) := by
  have hts : ∀ w ∈ (Cond.code y_M_in prog_14_method_3_code 3 (some .boolean) :: gw), w.before args s = true := List.forall_mem_cons.mpr ⟨hg _ k1064, hg⟩
  have hXH : va_X b L xs s H := hX.kept (hS.2.1 b hbl hbA)
  refine va_calli (A1 := fun q => H.size ≤ q) (free := fun q => H.size ≤ q) (S := Unit) (post := fun r _ => r = cellV L xs k) (B := fun _ _ => True) (va_runS (As := [Value.ref b, Value.int k]) (rest := rest) ⟨hx, hb, hml, hown, hts⟩ (c_cell l b L xs k H.size) (cwS 2 hts (my_gS k914 k915 k0 k916) rfl rfl rfl (by decide +kernel) ⟨by rw [hR]; exact Nat.le_of_ble_eq_true rfl, by rw [hR]; exact Nat.le_of_ble_eq_true rfl⟩) (cell_pre hXH hL hk) rfl rfl hls rfl hrest hdg ⟨by rw [hR]; exact hc, by rw [hR]; exact hs⟩) hS (fun q h1 h2 => absurd h1 (Nat.not_lt.mpr h2)) (fun q h => hA q (Nat.le_trans hS.1 h)) (fun r u t H1 locs1 ht hvm hw hB hz1 hk1 hS1 => ?_)
  subst hw
  exact kk H1 locs1 (fun k2 q hq => (hP k2 q hq).kept (hk1 q.1 (hP k2 q hq).lt (Nat.not_le.mpr (hP k2 q hq).lt))) hS1

