section
/-! THE LAW: what both objects are between two calls -/
theorem mo_cs (z : Int32) : (z < 2 ∨ 64 < z) ∨ ∃ ns, 2 ≤ ns ∧ ns ≤ 64 ∧ z = nI ns := by
  by_cases h1 : z < 2
  · exact Or.inl (Or.inl h1)
  · by_cases h2 : 64 < z
    · exact Or.inl (Or.inr h2)
    · right
      obtain ⟨n, a, b, e⟩ := in_of2 (a := 2) (b := 64) (p := z) (by decide) (by decide) ⟨Int32.not_lt.mp h1, Int32.not_lt.mp h2⟩
      exact ⟨n, a, b, e⟩
theorem md_cs (z : Int32) {k : Nat} (hk : k ≤ 8) : (z < 0 ∨ nI k ≤ z) ∨ ∃ j, j < k ∧ z = nI j := by
  by_cases h1 : z < 0
  · exact Or.inl (Or.inl h1)
  · by_cases h2 : nI k ≤ z
    · exact Or.inl (Or.inr h2)
    · right
      rw [Int32.lt_iff_toInt_lt] at h1
      rw [Int32.le_iff_toInt_le, nI_toInt (by omega)] at h2
      have e0 : (0 : Int32).toInt = 0 := rfl
      refine ⟨z.toInt.toNat, by omega, ?_⟩
      apply Int32.toInt_inj.mp
      rw [nI_toInt (by omega)]
      omega
theorem mb_push (cI : ClassId) (X : va_W) (ms : List MB) (x : MB) : ((X ++ mbC cI x) ++ mbsC cI ms).Perm (X ++ mbsC cI (ms ++ [x])) := by
  have h := mb_out cI X ms [] x
  have e : mbsC cI ([] : List MB) = [] := rfl
  rw [e, List.append_nil] at h
  exact h
theorem mf_push {mf : Nat → Option Nat} {ms : List MB} {x : MB} (h : mfOk mf ms) (h8 : ms.length < 8) : mfOk (va_up mf ms.length (some x.1)) (ms ++ [x]) := by
  intro i hi
  by_cases e : i = ms.length
  · subst e
    rw [va_up_self, mb_get (a := ms) (b := []) (x := x)]
    rfl
  · rw [va_up_ne _ _ e, h i hi]
    rcases Nat.lt_or_ge i ms.length with q | q
    · rw [List.getElem?_append_left q]
    · rw [List.getElem?_eq_none (by omega), List.getElem?_eq_none (by rw [List.length_append, List.length_singleton]; omega)]
theorem ok_push {ms : List MB} {x : MB} (h : ∀ y ∈ ms, mbOk y) (hx : mbOk x) : ∀ y ∈ ms ++ [x], mbOk y := by
  intro y hy
  rcases List.mem_append.mp hy with q | q
  · exact h y q
  · rw [List.mem_singleton.mp q]; exact hx
theorem pm_ca {α : Type} (a b c : List α) : (a ++ (b ++ c)).Perm (b ++ (a ++ c)) := by
  rw [← List.append_assoc, ← List.append_assoc]
  exact List.Perm.append_right _ List.perm_append_comm
theorem pm_5 {α : Type} (P Hd O1 O2 Q : List α) : (P ++ ((Hd ++ (O1 ++ O2)) ++ Q)).Perm (O1 ++ (Hd ++ (O2 ++ (P ++ Q)))) := by
  rw [List.append_assoc Hd, List.append_assoc O1]
  refine (pm_ca P Hd _).trans ?_
  refine ((pm_ca P O1 _).append_left Hd).trans ?_
  refine (pm_ca Hd O1 _).trans ?_
  exact (((pm_ca P O2 Q).append_left Hd).append_left O1)
def mbH (cI : ClassId) (x : MB) : va_W := [(x.1, Sum.inr (8, [Value.ref x.2.1, Value.ref x.2.2.2.2.1.1, Value.ref x.2.2.2.2.2.1])), (x.2.1, Sum.inl (cI, x.2.2.1, Sum.inl x.2.2.2.1))]
theorem mb_outE {cI : ClassId} {ms a b : List MB} {x : MB} (X : va_W) (e : ms = a ++ x :: b) : ((X ++ mbC cI x) ++ (mbsC cI a ++ mbsC cI b)).Perm (X ++ mbsC cI ms) := by
  subst e; exact mb_out cI X a b x
theorem mf_someE {mf : Nat → Option Nat} {ms a b : List MB} {x : MB} {j : Nat} (h : mfOk mf ms) (e : ms = a ++ x :: b) (hl : a.length = j) (h8 : j < 8) : mf j = some x.1 := by
  subst e; subst hl; exact mf_some h h8
theorem mb_setE {ms a b : List MB} {x y : MB} (e : ms = a ++ x :: b) (h : mbA y = mbA x) : (a ++ y :: b).map mbA = ms.map mbA := by
  subst e; exact mb_set h
theorem ok_setE {ms a b : List MB} {x y : MB} (h : ∀ z ∈ ms, mbOk z) (e : ms = a ++ x :: b) (hy : mbOk y) : ∀ z ∈ a ++ y :: b, mbOk z := by
  subst e; exact ok_set h hy
theorem MI3_new {M bm km ns : Nat} {N : Nat → Nat} {fItems fGoes : Int32} {vIM vIW vNow f2 : Nat → Int32} (h : MI3 M bm km N fItems fGoes vIM vIW vNow) (hN : ∀ i, i < km → N i ≤ 64) (ho : sgO f2 vNow (64 * km) 64) : MI3 M bm (km + 1) (upN N km ns) fItems fGoes vIM vIW f2 := by
  obtain ⟨its, h1, h2, h3, h4, h5⟩ := h
  refine ⟨its, h1, h2, h3, h4, fun i hlt => ?_⟩
  rcases h5 i hlt with q | ⟨q1, q2, q3, q4, q5, q6⟩
  · exact Or.inl q
  · generalize hit : itA its i = it at q1 q2 q3 q4 q5 q6 ⊢
    have hn := hN _ q2
    have hne : it.2.1 ≠ km := by omega
    have hF : ∀ k, k < N it.2.1 → Fvw f2 it.2.1 k = Fvw vNow it.2.1 k := fun k hk => by
      unfold Fvw
      rw [ho _ (by omega)]
    rw [show upN N km ns = upN N km ns from rfl]
    refine Or.inr ⟨q1, by omega, by rw [upN_n _ hne]; exact q3, ?_, ?_, ?_⟩
    · rw [hF _ q3]; exact q4
    · rw [upN_n _ hne, ns_cg hF]; exact q5
    · rw [upN_n _ hne]
      intro k hk
      rw [ho _ (by omega), q6 k hk, hF k hk]
/-! the law's own helper -/
def cellV (L : Nat) (xs : Nat → Int32) (k : Int32) : Int32 := if nI L ≤ k then 0 else xs k.toNatClampNeg
theorem d_cell_0 : decode method_2_code 0 = .ok (.iload_n 1, 1) := by decide +kernel
theorem d_cell_1 : decode method_2_code 1 = .ok (.aload_n 0, 1) := by decide +kernel
theorem d_cell_2 : decode method_2_code 2 = .ok (.arraylength, 1) := by decide +kernel
theorem d_cell_3 : decode method_2_code 3 = .ok (.if_icmp .ge 9, 3) := by decide +kernel
theorem d_cell_6 : decode method_2_code 6 = .ok (.aload_n 0, 1) := by decide +kernel
theorem d_cell_7 : decode method_2_code 7 = .ok (.iload_n 1, 1) := by decide +kernel
theorem d_cell_8 : decode method_2_code 8 = .ok (.iaload, 1) := by decide +kernel
theorem d_cell_9 : decode method_2_code 9 = .ok (.goto 4, 3) := by decide +kernel
theorem d_cell_12 : decode method_2_code 12 = .ok (.iconst 0, 1) := by decide +kernel
theorem d_cell_13 : decode method_2_code 13 = .ok (.ireturn, 1) := by decide +kernel
def cellP (b L : Nat) (xs : Nat → Int32) (k : Int32) (sz : Nat) (U : State) : Prop := U.heap.size = sz ∧ va_X b L xs U U.heap ∧ L < 2 ^ 31 ∧ ¬ k < 0
theorem c_cell (l : Launch) (b L : Nat) (xs : Nat → Int32) (k : Int32) (sz : Nat) : Met l y_Law_cell (Cond.code y_Law_cell method_2_code 2 (some .int) :: gw) ({ frames := 0, cells := 0, slots := 0, locals := 0 } : Room) (va_Pc [Value.ref b, Value.int k] (cellP b L xs k sz)) (va_Qi (S := Unit) (fun r _ => r = cellV L xs k) (fun _ _ => True) (fun q => sz ≤ q)) 0 0 (fun q => sz ≤ q) := by
  refine Met.ofW (cc := method_2_code) (maxL := 2) (ret := some .int) (by decide) rfl ?_
  intro p e s m args below meth c s₁ B hml hv
  obtain ⟨ha, hsz, hX, hL, hk⟩ := hv
  subst hsz
  have hx := B.exec
  have hb := B.bytes
  have hr := B.returns
  have hlocks := B.notSynchronized
  have hbl : b < s.heap.size := by
    obtain ⟨scr, h1, -⟩ := hX
    exact (Array.getElem?_eq_some_iff.mp h1).1
  have hbA : ¬ (fun q : Nat => s.heap.size ≤ q) b := Nat.not_le.mpr hbl
  have hS : va_S (fun q : Nat => s.heap.size ≤ q) s.heap s.heap [] := va_S.rf
  have hl := lv_entry ([Value.ref b, Value.int k]) (n := 2) (Nat.le_of_ble_eq_true rfl)
  refine W.eq (g2 := F0 m 0 ((lg_sl [Value.ref b, Value.int k] ++ List.replicate (2 - (lg_sl [Value.ref b, Value.int k]).length) Slot.unset).toArray) []) (by rw [ha]; exact lg_entry_eq m [Value.ref b, Value.int k] 2) ?_
  generalize (lg_sl ([Value.ref b, Value.int k] : List Value) ++ List.replicate (2 - (lg_sl ([Value.ref b, Value.int k] : List Value)).length) Slot.unset).toArray = ls at hl ⊢
  have hl : lv_has ls 2 [(0, Value.ref b), (1, Value.int k)] := hl
  refine lv_iload_n hx hb d_cell_0 rfl (lv_at hl 1 rfl) ?_
  refine lv_aload_n hx hb d_cell_1 rfl (lv_at hl 0 rfl) ?_
  refine va_slen hx hb hX hbl hbA hS d_cell_2 ?_
  refine lv_icmp_ge (tgt := 12) hx hb d_cell_3 (by decide) (fun c1 => ?_) (fun c1 => ?_)
  · refine lv_iconst (v := 0) hx hb d_cell_12 (by decide) ?_
    exact W.zret (v := 0) hx hb hr rfl (fun t ht hW => ⟨⟨0, (), rfl, show (0 : Int32) = cellV L xs k from by unfold cellV; rw [if_pos (show nI L ≤ k from c1)], trivial⟩, hS.F ht⟩) (fun q hq => absurd hq List.not_mem_nil) d_cell_13 hlocks
  · refine lv_aload_n hx hb d_cell_6 rfl (lv_at hl 0 rfl) ?_
    refine lv_iload_n hx hb d_cell_7 rfl (lv_at hl 1 rfl) ?_
    refine va_sld hx hb hX hbl hbA hS (I_in' hL hk c1) d_cell_8 ?_
    refine lv_goto (tgt := 13) hx hb d_cell_9 (by decide) ?_
    exact W.zret (v := xs k.toNatClampNeg) hx hb hr rfl (fun t ht hW => ⟨⟨_, (), rfl, show xs k.toNatClampNeg = cellV L xs k from by unfold cellV; rw [if_neg (show ¬ nI L ≤ k from c1)], trivial⟩, hS.F ht⟩) (fun q hq => absurd hq List.not_mem_nil) d_cell_13 hlocks
theorem cell_pre {b L : Nat} {xs : Nat → Int32} {k : Int32} {s : State} {H : Heap} (hX : va_X b L xs s H) (hL : L < 2 ^ 31) (hk : ¬ k < 0) : FrameBlind (va_Pc [Value.ref b, Value.int k] (cellP b L xs k H.size)) ∧ ∀ U : State, U.heap = H → s.WarmedH U.vm → va_Pc [Value.ref b, Value.int k] (cellP b L xs k H.size) ([Value.ref b, Value.int k] : List Value).toArray U :=
  ⟨fun a U g mk q => ⟨q.1, q.2.1, va_X.moved (u := U) (U := U.calling g mk a) (Vm.Alike.refl U.vm) q.2.2.1, q.2.2.2⟩, fun U hU hW => ⟨rfl, by rw [hU], by rw [hU]; exact va_X.moved hW.alike hX, hL, hk⟩⟩
theorem cell_call {p : Program} {l : Launch} {e : Env} {R : Room} {s : State} {m : MethodId} {args : Array Value} {below : List Frame} {meth : Method} {c : Code} {H : Heap} {locs : List Loc} {cells slots : Nat} {Q : State → Prop} {pc : Nat} {ls : Array Slot} {rest : List Value} {D : va_G} {cl : List vw_C} {ws : va_W} {A : Nat → Prop} {b L : Nat} {xs : Nat → Int32}
    (hx : p.tables.exec = Jvm.exec) (hb : c.code = code) (hml : c.maxLocals = 4) (hown : s.vm.findClass "RangeCodersLaw" = some m.cls) (hg : ∀ w ∈ gw, w.before args s = true) (hR : R = room_1) (hX : va_X b L xs s s.heap) (hbl : b < s.heap.size) (hbA : ¬ A b) (hL : L < 2 ^ 31) (hP : va_P D cl ws H) (hS : va_S A s.heap H locs) (hA : ∀ q : Nat, s.heap.size ≤ q → A q) {k : Int32} (hk : ¬ k < 0) (hrest : 2 * (F0 m pc ls (.int k :: .ref b :: rest)).monitorRoom + (rest.map fun v => v.category).sum ≤ 8) (hls : ls.size = 4) (hc : cells ≤ 600000) (hs : slots ≤ 7302250) (hdg : decode code pc = .ok (.invokestatic 9, 3))
    (kk : ∀ (H1 : Heap) (locs1 : List Loc), va_P D cl ws H1 → va_S A s.heap H1 locs1 → W p l e R s m args below meth c H1 locs1 cells slots Q (F0 m (pc + 3) ls (.int (cellV L xs k) :: rest))) : W p l e R s m args below meth c H locs cells slots Q (F0 m pc ls (.int k :: .ref b :: rest)) := by
  have hts : ∀ w ∈ (Cond.code y_M_in prog_14_method_3_code 3 (some .boolean) :: gw), w.before args s = true := List.forall_mem_cons.mpr ⟨hg _ k1064, hg⟩
  have hXH : va_X b L xs s H := hX.kept (hS.2.1 b hbl hbA)
  refine va_calli (A1 := fun q => H.size ≤ q) (free := fun q => H.size ≤ q) (S := Unit) (post := fun r _ => r = cellV L xs k) (B := fun _ _ => True) (va_runS (As := [Value.ref b, Value.int k]) (rest := rest) ⟨hx, hb, hml, hown, hts⟩ (c_cell l b L xs k H.size) (cwS 2 hts (my_gS k914 k915 k0 k916) rfl rfl rfl (by decide +kernel) ⟨by rw [hR]; exact Nat.le_of_ble_eq_true rfl, by rw [hR]; exact Nat.le_of_ble_eq_true rfl⟩) (cell_pre hXH hL hk) rfl rfl hls rfl hrest hdg ⟨by rw [hR]; exact hc, by rw [hR]; exact hs⟩) hS (fun q h1 h2 => absurd h1 (Nat.not_lt.mpr h2)) (fun q h => hA q (Nat.le_trans hS.1 h)) (fun r u t H1 locs1 ht hvm hw hB hz1 hk1 hS1 => ?_)
  subst hw
  exact kk H1 locs1 (fun k2 q hq => (hP k2 q hq).kept (hk1 q.1 (hP k2 q hq).lt (Nat.not_le.mpr (hP k2 q hq).lt))) hS1
end
section
/-! THE CLAIM OUT OF ONE WALK OF THE LAW'S BODY. Your part is whole_start (and what it stands on); all else here is the same for every law, but numbers. -/
def R_law : String := "RangeCodersLaw"
def lw_P (b : Addr) (xs : List Int32) (args : Array Value) (s : State) : Prop := args = #[Value.ref b] ∧ s.IntsAt b xs ∧ xs.length ≤ 2050 ∧ (Jvm.Cond.and given_1 narrow_1).before args s = true
def lw_Q (_ : Array Value) (s : State) (o : Outcome) (t : State) : Prop := o = .returned (some (.int 1)) ∧ Framed s o t [] 600000 7302250
def lw_Z (below : List Frame) (a : Array Value) (s : State) : State → Prop := fun t => ∃ o, t.status = .running ∧ Ended t below o ∧ lw_Q a s o t
/-- the law's own end, with 1 on the stack, nothing written that was there before, its room as the claim has it -/
theorem lw_ret {p : Program} {l : Launch} {e : Env} {s : State} {m : MethodId} {below : List Frame} {meth : Method} {c : Code} {b : Nat} (hx : p.tables.exec = Jvm.exec) (hb : c.code = code) (hr : meth.sig.returnType = ret) (hlocks : meth.locks = false) {pc : Nat} {H : Heap} {ls : Array Slot} (hdg : decode code pc = .ok (.ireturn, 1)) : W p l e room_1 s m #[Value.ref b] below meth c H [] 600000 7302250 (lw_Z below #[Value.ref b] s) (F0 m pc ls [Value.int 1]) := by
  intro T hT X
  obtain ⟨fs, hret, hrun, hended, hW, hframe⟩ := X.leave (v := some (.int 1)) (hlocks := hlocks) (fun h => by rw [hr] at h; cases h)
  have hmeth' : T.vm.method? m = some meth := X.method'
  refine ⟨T.setFrames fs, ?_, .returned (some (.int 1)), hrun, hended, rfl, ⟨_, rfl⟩, hW, hframe⟩
  jvm_step X.here [X.here.top, hx, hb, hdg, hmeth', hr, ret, narrow_b1]
  (try refine ⟨rfl, ?_⟩); (try refine ⟨rfl, ?_⟩)
  first | (intro acts; rw [hret _ acts rfl rfl rfl]) | rw [hret _ _ rfl rfl rfl]
  exact Steps.refl _
/-- what holds at the law's entry: the machine, the code, the tables' words (any of lw_tbl by 'hts w (by decide +kernel)'), the script of L ints xs at the cell b, what the Statement gives of the start (any of its parts by flat_of_before) -/
def lw_At (p : Program) (s : State) (m : MethodId) (meth : Method) (c : Code) (b L : Nat) (xs : Nat → Int32) : Prop :=
  p.tables.exec = Jvm.exec ∧ c.code = code ∧ meth.sig.returnType = ret ∧ c.maxLocals = 4 ∧ s.vm.findClass R_law = some m.cls ∧ (∀ w ∈ lw_tbl, w.before #[Value.ref b] s = true) ∧ va_X b L xs s s.heap ∧ b < s.heap.size ∧ meth.locks = false ∧ (Jvm.Cond.and given_1 narrow_1).before #[Value.ref b] s = true
theorem loop_le {L i : Nat} (hL : L ≤ 2050) (hi : i ≤ 2060) (h : ¬ Int32.ofNat L - 4 < nI i) : i + 4 ≤ L := by
  have e1 : (Int32.ofNat L).toInt = (L : Int) := nI_toInt (n := L) (by omega)
  have e4 : (4 : Int32).toInt = 4 := rfl
  rw [Int32.lt_iff_toInt_lt, Int32.toInt_sub, e1, e4, nI_toInt (by omega)] at h
  rw [Int.bmod_eq_of_le (by omega) (by omega)] at h
  omega
theorem sw_cs {v : Int32} (h : ¬ (v.toInt < 0 ∨ 15 < v.toInt)) : ∃ j, j < 16 ∧ v = nI j := ⟨v.toInt.toNat, by omega, Int32.toInt_inj.mp (by rw [nI_toInt (by omega)]; omega)⟩
theorem law_end {p : Program} {l : Launch} {e : Env} {s : State} {m : MethodId} {below : List Frame} {meth : Method} {c : Code} {b : Nat} {A : Nat → Prop} {H : Heap} {locs : List Loc} {dd : Nat} {ls : Array Slot} (hA : ∀ q : Nat, A q → s.heap.size ≤ q) (hx : p.tables.exec = Jvm.exec) (hb : c.code = code) (hr : meth.sig.returnType = ret) (hlocks : meth.locks = false) (hS : va_S A s.heap H locs) (hdd : dd ≤ 300000) : W p l e room_1 s m #[Value.ref b] below meth c H locs dd dd (lw_Z below #[Value.ref b] s) (F0 m 536 ls []) := by
  refine va_forget (fun q hq => hA _ (hS.2.2 q hq)) ?_
  refine lv_iconst (v := 1) hx hb d_Law_law_536 (by decide) ?_
  refine W.widen (k := 600000) (n := 7302250) (by omega) (by omega) ?_
  exact lw_ret hx hb hr hlocks d_Law_law_537
end
section
/-! HOW MANY BYTES a message can have: RANGE's size in bits pays for them -/
theorem lg_mono {a b : Nat} (h0 : 0 < a) (h : a ≤ b) : a.log2 ≤ b.log2 := (Nat.le_log2 (by omega)).mpr (Nat.le_trans (Nat.log2_self_le (by omega)) h)
theorem lg_256 {a : Nat} (h0 : 0 < a) : a.log2 + 8 ≤ (a * 256).log2 := by
  refine (Nat.le_log2 (by omega)).mpr ?_
  rw [Nat.pow_add]
  exact Nat.mul_le_mul_right 256 (Nat.log2_self_le (by omega))
theorem lg_div {R a : Nat} (h : 2 ^ a ≤ R) : R.log2 ≤ a + (R / 2 ^ a).log2 := by
  have hp := Nat.two_pow_pos a
  have ha : a ≤ R.log2 := (Nat.le_log2 (by omega)).mpr h
  have h1 : 2 ^ (R.log2 - a) ≤ R / 2 ^ a := by
    rw [Nat.le_div_iff_mul_le hp, ← Nat.pow_add, Nat.sub_add_cancel ha]
    exact Nat.log2_self_le (by omega)
  have h2 : R.log2 - a ≤ (R / 2 ^ a).log2 := (Nat.le_log2 (by have := Nat.two_pow_pos (R.log2 - a); omega)).mpr h1
  omega
theorem lg_31 {R : Nat} (h : R < 4294967296) (h0 : 0 < R) : R.log2 ≤ 31 := by
  rcases Nat.lt_or_ge 31 R.log2 with q | q
  · have := (Nat.le_log2 (n := R) (k := 32) (by omega)).mp q
    omega
  · exact q
/-- c bits have been paid -/
def lgI (c : Nat) (e : ES) : Prop := 8 * eN e + 23 ≤ c + (eR e).log2
theorem lg_wdN : ∀ (k : Nat) (e : ES) (c : Nat), 0 < eR e → lgI c e → lgI c (wdN k e)
  | 0, e, c, _, h => h
  | k + 1, e, c, h0, h => by
    by_cases hr : eR e < 16777216
    · rw [wdN_s (show 0 < k + 1 from Nat.succ_pos k) hr, Nat.add_sub_cancel]
      refine lg_wdN k _ c (by show 0 < eR e * 256; omega) ?_
      have a := eN_sh (eR e * 256, e.2)
      have b := lg_256 h0
      have d : eN (eR e * 256, e.2) = eN e := rfl
      unfold lgI at h ⊢
      show 8 * eN (shS (eR e * 256, e.2)) + 23 ≤ c + (eR e * 256).log2
      omega
    · rw [wdN_e hr]; exact h
theorem lg_wd {e : ES} {c : Nat} (h0 : 0 < eR e) (h : lgI c e) : lgI c (wdS e) := lg_wdN 8 e c h0 h
/-- RANGE becomes smaller, by d bits at most -/
theorem lg_lo {R L R2 L2 Pn c d : Nat} {ca : Option Nat} {bs : List Nat} (h : lgI c (R, L, ca, Pn, bs)) (hd : R.log2 ≤ d + R2.log2) : lgI (c + d) (R2, L2, ca, Pn, bs) := by
  unfold lgI at h ⊢
  show 8 * (bs.length + Pn + 1) + 23 ≤ c + d + R2.log2
  have : 8 * (bs.length + Pn + 1) + 23 ≤ c + R.log2 := h
  omega
theorem lg_nr {R L t cc f Pn c : Nat} {ca : Option Nat} {bs : List Nat} (h : lgI c (R, L, ca, Pn, bs)) (hR : 8192 ≤ R) (ht : 0 < t) (ht2 : t ≤ 8192) (hf : 0 < f) : lgI (c + 13) (wdS (R / t * f, L + R / t * cc, ca, Pn, bs)) := by
  have h1 : R / 8192 ≤ R / t := Nat.div_le_div_left ht2 ht
  have h2 : 0 < R / 8192 := Nat.div_pos hR (by decide)
  have h3 : R / t * 1 ≤ R / t * f := Nat.mul_le_mul_left _ hf
  refine lg_wd (by show 0 < R / t * f; omega) (lg_lo h ?_)
  have h4 := lg_div (R := R) (a := 13) hR
  have h5 := lg_mono (a := R / 2 ^ 13) (b := R / t * f) h2 (show R / 8192 ≤ R / t * f by omega)
  omega
theorem lg_bt {p b R L Pn c : Nat} {ca : Option Nat} {bs : List Nat} (h : lgI c (R, L, ca, Pn, bs)) (hR : 16777216 ≤ R) (hp1 : 1 ≤ p) (hp2 : p ≤ 2047) : lgI (c + 11) (wdS (btS p b R L ca Pn bs)) := by
  have h2 : 0 < R / 2048 := Nat.div_pos (by omega) (by decide)
  have h3 : R / 2048 * 1 ≤ R / 2048 * p := Nat.mul_le_mul_left _ hp1
  have h4 : R / 2048 * p ≤ R / 2048 * 2047 := Nat.mul_le_mul_left _ hp2
  have h5 := lg_div (R := R) (a := 11) (by omega)
  unfold btS
  split
  · refine lg_wd (by show 0 < R / 2048 * p; omega) (lg_lo h ?_)
    have := lg_mono (a := R / 2 ^ 11) (b := R / 2048 * p) h2 (show R / 2048 ≤ R / 2048 * p by omega)
    omega
  · refine lg_wd (by show 0 < R - R / 2048 * p; omega) (lg_lo h ?_)
    have := lg_mono (a := R / 2 ^ 11) (b := R - R / 2048 * p) h2 (show R / 2048 ≤ R - R / 2048 * p by omega)
    omega
theorem lg_vb (v : Nat) : ∀ (b : Nat) (e : ES) (c : Nat), eInv e → lgI c e → lgI (c + b) (vbN v b e)
  | 0, e, c, _, h => h
  | b + 1, e, c, hi, h => by
    obtain ⟨r, l, ca, p, bs⟩ := e
    have h1 : 16777216 ≤ r := hi.1
    have h2 := lg_div (R := r) (a := 1) (by omega)
    have z := lg_vb v b (wdS (r / 2, (if v / 2 ^ b % 2 = 1 then l + r / 2 else l), ca, p, bs)) (c + 1) (vb_inv hi (v / 2 ^ b % 2 = 1)).1 (lg_wd (by show 0 < r / 2; omega) (lg_lo h h2))
    rw [show c + (b + 1) = c + 1 + b by omega]
    exact z
theorem lg_sp (sh t : Nat) (hs : 1 ≤ sh) : ∀ (k nd : Nat) (e : ES) (C : Nat → Nat) (c : Nat), k ≤ 6 → nd < 2 ^ (7 - k) → eInv e → (∀ j, j < 64 → 1 ≤ C j ∧ C j ≤ 2047) → lgI c e → lgI (c + 11 * k) (spN sh t k nd e C).1
  | 0, nd, e, C, c, _, _, _, _, h => h
  | k + 1, nd, e, C, c, hk, hnd, hi, hC, h => by
    have hn : nd < 64 := Nat.lt_of_lt_of_le hnd (Nat.le_trans (Nat.pow_le_pow_right (by decide) (show 7 - (k + 1) ≤ 6 by omega)) (by decide))
    obtain ⟨r, l, ca, p, bs⟩ := e
    have hb2 := Nat.mod_lt (t / 2 ^ k) (show 0 < 2 by decide)
    have z := lg_sp sh t hs k (2 * nd + t / 2 ^ k % 2) (wdS (btS (C nd) (t / 2 ^ k % 2) r l ca p bs)) (upN C nd (mvC sh (t / 2 ^ k % 2) (C nd))) (c + 11) (by omega)
      (by have e7 : 7 - k = (7 - (k + 1)) + 1 := by omega
          rw [e7, Nat.pow_succ]; omega) (bt_inv (e := (r, l, ca, p, bs)) hi (hC nd hn).1 (hC nd hn).2).1 (ch_up hs hC) (lg_bt h hi.1 (hC nd hn).1 (hC nd hn).2)
    rw [show c + 11 * (k + 1) = c + 11 + 11 * k by omega]
    exact z
theorem shK_N : ∀ (k : Nat) (e : ES), eN (shK k e) ≤ eN e + k
  | 0, e => Nat.le_refl _
  | k + 1, e => by
    have a := shK_N k (shS e)
    have b := eN_sh e
    show eN (shK k (shS e)) ≤ _
    omega
theorem shK_oct : ∀ (k : Nat) (e : ES), oct (eB e) → oct (eB (shK k e))
  | 0, e, h => h
  | k + 1, e, h => shK_oct k (shS e) (oct_shB h)
theorem tpK_oct : ∀ (k : Nat) (e : Nat × List Nat), oct e.2 → oct (tpK k e).2
  | 0, e, h => h
  | k + 1, e, h => tpK_oct k _ (oct_app h (oct_one (Nat.mod_lt _ (by decide))))
theorem tpK_len : ∀ (k : Nat) (e : Nat × List Nat), (tpK k e).2.length = e.2.length + k
  | 0, e => rfl
  | k + 1, e => by
    have a := tpK_len k (mvL e.1, e.2 ++ [e.1 / 16777216 % 256])
    rw [show ((mvL e.1, e.2 ++ [e.1 / 16777216 % 256]) : Nat × List Nat).2.length = e.2.length + 1 from by rw [List.length_append, List.length_singleton]] at a
    show (tpK k _).2.length = _
    omega
theorem lg_len {R L Pn c : Nat} {ca : Option Nat} {bs : List Nat} (h : lgI c (R, L, ca, Pn, bs)) (hc : c ≤ 43200) (h0 : 0 < R) (hR : R < 4294967296) : (eB (shK 5 (R, L, ca, Pn, bs))).length ≤ 6000 := by
  have a : 8 * eN (R, L, ca, Pn, bs) + 23 ≤ c + R.log2 := h
  have b := lg_31 hR h0
  have d := shK_N 5 (R, L, ca, Pn, bs)
  have e : (eB (shK 5 (R, L, ca, Pn, bs))).length + eP (shK 5 (R, L, ca, Pn, bs)) + 1 = eN (shK 5 (R, L, ca, Pn, bs)) := rfl
  omega
/-! THE TIE of class and reference: bytes -/
/-- the message of forms 0 and 2 -/
def MT0 (fit : Int32) (xlow xrange : Int64) (xcache xpending rwn : Int32) (rwf : Nat → Int32) (fLow fRange : Int64) (fCache fPend fGoes : Int32) (vGoing : Nat → Int32) : Prop := ∃ (ki Rg L : Nat) (ca : Option Nat) (Pn : Nat) (bs : List Nat), ki ≤ 600 ∧ fit = nI ki ∧ xlow = lN L ∧ xrange = lN Rg ∧ xcache = caI ca ∧ xpending = nI Pn ∧ rwn = nI bs.length ∧ fLow = lN L ∧ fRange = lN Rg ∧ fCache = caI ca ∧ fPend = nI Pn ∧ fGoes = nI bs.length ∧ gIs rwf bs ∧ gIs vGoing bs ∧ eInv (Rg, L, ca, Pn, bs) ∧ oct bs ∧ bs.length + Pn ≤ 12 * ki ∧ lgI (72 * ki) (Rg, L, ca, Pn, bs)
theorem MT0_of {e : ES} {ki c : Nat} {f v2 : Nat → Int32} (hk : ki < 600) (he : eInv e) (ho : oct (eB e)) (hf : gIs f (eB e)) (hg : gIs v2 (eB e)) (hl : eN e ≤ 12 * ki + 13) (hc : lgI c e) (hc2 : c ≤ 72 * ki + 72) : MT0 (nI (ki + 1)) (lN (eL e)) (lN (eR e)) (caI (eC e)) (nI (eP e)) (nI (eB e).length) f (lN (eL e)) (lN (eR e)) (caI (eC e)) (nI (eP e)) (nI (eB e).length) v2 := by
  obtain ⟨r, l, ca, p, bs⟩ := e
  have h2 : bs.length + p + 1 ≤ 12 * ki + 13 := hl
  refine ⟨ki + 1, r, l, ca, p, bs, by omega, rfl, rfl, rfl, rfl, rfl, rfl, rfl, rfl, rfl, rfl, rfl, hf, hg, he, ho, by omega, ?_⟩
  unfold lgI at hc ⊢
  omega
theorem MT0_0 (f vGoing : Nat → Int32) : MT0 0 0 4294967295 (-1) 0 0 f 0 4294967295 (-1) 0 0 vGoing := ⟨0, 4294967295, 0, none, 0, [], by decide, rfl, rfl, rfl, rfl, rfl, rfl, rfl, rfl, rfl, rfl, rfl, fun i h => absurd h (Nat.not_lt_zero i), fun i h => absurd h (Nat.not_lt_zero i), ⟨by decide, by decide, by decide, fun _ h => by cases h⟩, oct_iff.mpr (fun _ z => absurd z List.not_mem_nil), by decide, by unfold lgI; decide⟩
/-- the message of form 1 -/
def MT1 (fit : Int32) (xlow xrange : Int64) (rwn : Int32) (rwf : Nat → Int32) (fLow fRange : Int64) (fGoes : Int32) (vGoing : Nat → Int32) : Prop := ∃ (ki Rg L : Nat) (bs : List Nat), ki ≤ 600 ∧ fit = nI ki ∧ xlow = lN L ∧ xrange = lN Rg ∧ rwn = nI bs.length ∧ fLow = lN L ∧ fRange = lN Rg ∧ fGoes = nI bs.length ∧ gIs rwf bs ∧ gIs vGoing bs ∧ pOk Rg L ∧ 65536 ≤ Rg ∧ oct bs ∧ bs.length ≤ 4 * ki
theorem MT1_of {e : PS} {ki : Nat} {f v2 : Nat → Int32} (hk : ki < 600) (hp : pOk e.1 e.2.1) (h6 : 65536 ≤ e.1) (ho : oct e.2.2) (hf : gIs f e.2.2) (hg : gIs v2 e.2.2) (hl : e.2.2.length ≤ 4 * ki + 4) : MT1 (nI (ki + 1)) (lN e.2.1) (lN e.1) (nI e.2.2.length) f (lN e.2.1) (lN e.1) (nI e.2.2.length) v2 := ⟨ki + 1, e.1, e.2.1, e.2.2, by omega, rfl, rfl, rfl, rfl, rfl, rfl, rfl, hf, hg, hp, h6, ho, by omega⟩
theorem MT1_0 (f vGoing : Nat → Int32) : MT1 0 0 4294967295 0 f 0 4294967295 0 vGoing := ⟨0, 4294967295, 0, [], by decide, rfl, rfl, rfl, rfl, rfl, rfl, rfl, fun i h => absurd h (Nat.not_lt_zero i), fun i h => absurd h (Nat.not_lt_zero i), ⟨by decide, by decide, by decide, fun h => absurd h (by decide)⟩, by decide, oct_iff.mpr (fun _ z => absurd z List.not_mem_nil), by decide⟩
/-- items as the class keeps them -/
def kI (ms : List MB) (sof : Nat → Option Nat) (snf swf : Nat → Int32) (i : Nat) (it : It) : Prop := (it.1 = 0 ∧ sof i = none ∧ snf i = nI it.2.2 ∧ swf i = nI it.2.1) ∨ (¬ it.1 = 0 ∧ snf i = nI it.2.2 ∧ ∃ x, ms[it.2.1]? = some x ∧ sof i = some (mS x).1)
/-- the message of forms 3 and 4 -/
def MT3 (M bm : Nat) (ms : List MB) (N : Nat → Nat) (fit xkept : Int32) (sof : Nat → Option Nat) (snf swf : Nat → Int32) (fGoes : Int32) (vIM vIW vNow : Nat → Int32) : Prop := ∃ its : List It, its.length ≤ 600 ∧ fit = nI its.length ∧ xkept = nI its.length ∧ fGoes = 0 ∧ itIs vIM vIW its ∧ (∀ i, i < its.length → itOk M bm ms.length N vNow (itA its i)) ∧ ∀ i, i < its.length → kI ms sof snf swf i (itA its i)
theorem MT3_0 (M bm : Nat) (ms : List MB) (N : Nat → Nat) (sof : Nat → Option Nat) (snf swf vIM vIW vNow : Nat → Int32) : MT3 M bm ms N 0 0 sof snf swf 0 vIM vIW vNow := ⟨[], by decide, rfl, rfl, rfl, fun i h => absurd h (Nat.not_lt_zero i), fun i h => absurd h (Nat.not_lt_zero i), fun i h => absurd h (Nat.not_lt_zero i)⟩
theorem kI_up {ms : List MB} {sof : Nat → Option Nat} {snf swf : Nat → Int32} {i k : Nat} {it : It} {a : Option Nat} {b c : Int32} (h : kI ms sof snf swf i it) (hik : i ≠ k) : kI ms (va_up sof k a) (upd snf k b) (upd swf k c) i it := by
  unfold kI at h ⊢
  rw [va_up_ne _ _ hik, pk_un hik, pk_un hik]
  exact h
theorem MT3_add {M bm : Nat} {ms : List MB} {N : Nat → Nat} {its : List It} {it : It} {sof : Nat → Option Nat} {snf swf vIM vIW vNow : Nat → Int32} {a : Option Nat} {b c p1 p2 : Int32} (hl : its.length < 600) (hi : itIs vIM vIW its) (hok : ∀ i, i < its.length → itOk M bm ms.length N vNow (itA its i)) (hkI : ∀ i, i < its.length → kI ms sof snf swf i (itA its i)) (e1 : p1 = itM it) (e2 : p2 = itW it) (ho : itOk M bm ms.length N vNow it) (hk : kI ms (va_up sof its.length a) (upd snf its.length b) (upd swf its.length c) its.length it) :
    MT3 M bm ms N (nI (its.length + 1)) (nI (its.length + 1)) (va_up sof its.length a) (upd snf its.length b) (upd swf its.length c) 0 (upd vIM its.length p1) (upd vIW its.length p2) vNow := by
  obtain ⟨its2, h1, h2, h3, h4, h5⟩ := MI3_add hl hi hok rfl rfl e1 e2 ho
  refine ⟨its ++ [it], by rw [List.length_append, List.length_singleton]; omega, by rw [List.length_append]; rfl, by rw [List.length_append]; rfl, rfl, ?_, ?_, ?_⟩
  · intro i hi9
    rw [List.length_append, List.length_singleton] at hi9
    by_cases e : i = its.length
    · subst e; rw [itA_e, pk_us, pk_us]; exact ⟨e1, e2⟩
    · rw [itA_l (by omega), pk_un e, pk_un e]; exact hi i (by omega)
  · intro i hi9
    rw [List.length_append, List.length_singleton] at hi9
    by_cases e : i = its.length
    · subst e; rw [itA_e]; exact ho
    · rw [itA_l (by omega)]; exact hok i (by omega)
  · intro i hi9
    rw [List.length_append, List.length_singleton] at hi9
    by_cases e : i = its.length
    · subst e; rw [itA_e]; exact hk
    · rw [itA_l (by omega)]; exact kI_up (hkI i (by omega)) e
/-- of all models -/
theorem mt_set {P P2 : Nat → MB → Prop} {a b : List MB} {x y : MB} (h : ∀ (i : Nat) (u : MB), (a ++ x :: b)[i]? = some u → P i u) (hk : ∀ i u, i ≠ a.length → P i u → P2 i u) (hy : P2 a.length y) : ∀ (i : Nat) (u : MB), (a ++ y :: b)[i]? = some u → P2 i u := by
  intro i u hu
  by_cases e : i = a.length
  · subst e
    rw [mb_get] at hu
    cases hu
    exact hy
  · refine hk i u e (h i u ?_)
    rcases Nat.lt_or_ge i a.length with q | q
    · rw [List.getElem?_append_left q] at hu ⊢; exact hu
    · rw [List.getElem?_append_right q] at hu ⊢
      obtain ⟨d, hd⟩ : ∃ d, i - a.length = d + 1 := ⟨i - a.length - 1, by omega⟩
      rw [hd, List.getElem?_cons_succ] at hu ⊢
      exact hu
theorem mt_push {P P2 : Nat → MB → Prop} {ms : List MB} {y : MB} (h : ∀ (i : Nat) (u : MB), ms[i]? = some u → P i u) (hk : ∀ i u, i < ms.length → P i u → P2 i u) (hy : P2 ms.length y) : ∀ (i : Nat) (u : MB), (ms ++ [y])[i]? = some u → P2 i u := by
  intro i u hu
  rcases Nat.lt_or_ge i ms.length with q | q
  · rw [List.getElem?_append_left q] at hu
    exact hk i u q (h i u hu)
  · have hl := (List.getElem?_eq_some_iff.mp hu).1
    rw [List.length_append, List.length_singleton] at hl
    have e : i = ms.length := by omega
    subst e
    rw [List.getElem?_append_right (Nat.le_refl _), Nat.sub_self] at hu
    cases hu
    exact hy
theorem mA_get {ms ms2 : List MB} {k : Nat} {x : MB} (e : ms2.map mbA = ms.map mbA) (h : ms[k]? = some x) : ∃ y, ms2[k]? = some y ∧ mbA y = mbA x := by
  have h1 : (ms.map mbA)[k]? = some (mbA x) := by rw [List.getElem?_map, h]; rfl
  rw [← e, List.getElem?_map] at h1
  cases hy : ms2[k]? with
  | none => rw [hy] at h1; cases h1
  | some y => rw [hy] at h1; exact ⟨y, rfl, Option.some.inj h1⟩
theorem kI_ms {ms ms2 : List MB} {sof : Nat → Option Nat} {snf swf : Nat → Int32} {i : Nat} {it : It} (e : ms2.map mbA = ms.map mbA) (h : kI ms sof snf swf i it) : kI ms2 sof snf swf i it := by
  rcases h with q | ⟨q1, q2, x, q3, q4⟩
  · exact Or.inl q
  · obtain ⟨y, h1, h2⟩ := mA_get e q3
    refine Or.inr ⟨q1, q2, y, h1, ?_⟩
    rw [q4]
    exact congrArg some (congrArg Prod.snd h2).symm
theorem MT3_ms {M bm : Nat} {ms ms2 : List MB} {N : Nat → Nat} {fit xkept fGoes : Int32} {sof : Nat → Option Nat} {snf swf vIM vIW vNow : Nat → Int32} (e : ms2.map mbA = ms.map mbA) (h : MT3 M bm ms N fit xkept sof snf swf fGoes vIM vIW vNow) : MT3 M bm ms2 N fit xkept sof snf swf fGoes vIM vIW vNow := by
  obtain ⟨its, h1, h2, h3, h4, h5, h6, h7⟩ := h
  have hl : ms2.length = ms.length := by have := congrArg List.length e; rwa [List.length_map, List.length_map] at this
  exact ⟨its, h1, h2, h3, h4, h5, fun i hi => by rw [hl]; exact h6 i hi, fun i hi => kI_ms e (h7 i hi)⟩
theorem MT3_any {M bm : Nat} {ms ms2 : List MB} {N N2 : Nat → Nat} {fit xkept fGoes : Int32} {sof : Nat → Option Nat} {snf swf vIM vIW vNow vNow2 : Nat → Int32} (h : MT3 M bm ms N fit xkept sof snf swf fGoes vIM vIW vNow) (hi : ¬ 0 < fit) : MT3 M bm ms2 N2 fit xkept sof snf swf fGoes vIM vIW vNow2 := by
  obtain ⟨its, h1, h2, h3, h4, h5, h6, h7⟩ := h
  have e : its.length = 0 := by
    rcases Nat.eq_zero_or_pos its.length with z | z
    · exact z
    · exact absurd (show 0 < fit by rw [h2]; exact nI_pos0 z (by omega)) hi
  exact ⟨its, h1, h2, h3, h4, h5, fun i hlt => absurd hlt (by omega), fun i hlt => absurd hlt (by omega)⟩
theorem MT3_new {M bm ns : Nat} {ms : List MB} {y : MB} {N : Nat → Nat} {fit xkept fGoes : Int32} {sof : Nat → Option Nat} {snf swf vIM vIW vNow f2 : Nat → Int32} (h : MT3 M bm ms N fit xkept sof snf swf fGoes vIM vIW vNow) (hN : ∀ i, i < ms.length → N i ≤ 64) (ho : sgO f2 vNow (64 * ms.length) 64) : MT3 M bm (ms ++ [y]) (upN N ms.length ns) fit xkept sof snf swf fGoes vIM vIW f2 := by
  obtain ⟨its, h1, h2, h3, h4, h5, h6, h7⟩ := h
  refine ⟨its, h1, h2, h3, h4, h5, fun i hlt => ?_, fun i hlt => ?_⟩
  · obtain ⟨its2, -, -, -, -, -⟩ := MI3_new (ns := ns) (f2 := f2) (⟨its, h1, h2, h4, h5, h6⟩ : MI3 M bm ms.length N fit fGoes vIM vIW vNow) hN ho
    rw [List.length_append, List.length_singleton]
    rcases h6 i hlt with q | ⟨q1, q2, q3, q4, q5, q6⟩
    · exact Or.inl q
    · generalize hit : itA its i = it at q1 q2 q3 q4 q5 q6 ⊢
      have hn := hN _ q2
      have hne : it.2.1 ≠ ms.length := by omega
      have hF : ∀ k, k < N it.2.1 → Fvw f2 it.2.1 k = Fvw vNow it.2.1 k := fun k hk => by
        unfold Fvw
        rw [ho _ (by omega)]
      refine Or.inr ⟨q1, by omega, by rw [upN_n _ hne]; exact q3, ?_, ?_, ?_⟩
      · rw [hF _ q3]; exact q4
      · rw [upN_n _ hne, ns_cg hF]; exact q5
      · rw [upN_n _ hne]
        intro k hk
        rw [ho _ (by omega), q6 k hk, hF k hk]
  · rcases h7 i hlt with q | ⟨q1, q2, x, q3, q4⟩
    · exact Or.inl q
    · refine Or.inr ⟨q1, q2, x, ?_, q4⟩
      rw [List.getElem?_append_left (List.getElem?_eq_some_iff.mp q3).1]
      exact q3
/-- what the class's items are, for its end -/
theorem kp_of {cI : ClassId} {ob : OB → Nat → (Nat → Nat) → Prop} {M bm : Nat} {ms : List MB} {N : Nat → Nat} {vNow : Nat → Int32} {sof : Nat → Option Nat} {snf swf : Nat → Int32} {its : List It} (hok : ∀ i, i < its.length → itOk M bm ms.length N vNow (itA its i)) (hkI : ∀ i, i < its.length → kI ms sof snf swf i (itA its i)) (hob : ∀ (j : Nat) (x : MB), ms[j]? = some x → ns (Fvw vNow j) (N j) = M → sgI vNow (64 * j) (N j) (Fvw vNow j) → ob (mS x) (N j) (Fvw vNow j)) : kpt cI ob M bm N (Fvw vNow) sof snf swf (mbsC cI ms) its := by
  intro i hi
  rcases hkI i hi with ⟨q1, q2, q3, q4⟩ | ⟨q1, q2, x, q3, q4⟩
  · refine Or.inl ⟨q1, q2, q3, q4, ?_⟩
    rcases hok i hi with z | z
    · exact z.2
    · exact absurd q1 z.1
  · right
    rcases hok i hi with z | z
    · exact absurd z.1 q1
    · obtain ⟨z1, z2, z3, z4, z5, z6⟩ := z
      obtain ⟨p, q, e2⟩ := List.append_of_mem (List.mem_of_getElem? q3)
      refine ⟨q1, q2, z3, z4, z5, mS x, mbH cI x ++ (obC cI (mH x) ++ (mbsC cI p ++ mbsC cI q)), q4, hob _ x q3 z5 z6, ?_⟩
      rw [e2, mb_eq]
      exact pm_5 (mbsC cI p) (mbH cI x) (obC cI (mS x)) (obC cI (mH x)) (mbsC cI q)
theorem ct_set {kf vC : Nat → Int32} {n j t k : Nat} {x : Int32} (h : ∀ k, k < n → kf k = vC (64 * j + k)) (hk : k < n) : upd kf t x k = upd vC (64 * j + t) x (64 * j + k) := by
  by_cases e : k = t
  · subst e; rw [pk_us, pk_us]
  · rw [pk_un e, pk_un (by omega)]; exact h k hk
theorem ct_out {vC : Nat → Int32} {n j t : Nat} {x : Int32} (ht : t < n) (hn : n ≤ 64) : sgO (upd vC (64 * j + t) x) vC (64 * j) 64 := fun i hi => pk_un (by omega)
theorem sg_csN (z : Int32) {n : Nat} (hn : n < 2 ^ 30) : (z < 0 ∨ nI n ≤ z) ∨ ∃ t, t < n ∧ z = nI t := by
  by_cases h1 : z < 0
  · exact Or.inl (Or.inl h1)
  · by_cases h2 : nI n ≤ z
    · exact Or.inl (Or.inr h2)
    · right
      obtain ⟨t, ht, rfl⟩ := nI_of h1
      exact ⟨t, nI_lt' ht h2, rfl⟩
theorem tk_cs (z : Int32) {n : Nat} (hn : n ≤ 6000) : (z < 0 ∨ nI n < z - 2) ∨ ∃ ll, ¬ z < 0 ∧ z - 2 ≤ nI n ∧ ll ≤ n ∧ (z = 1 → ll = n) ∧ (¬ z = 1 → (if (0 : Int32) < z - 2 then z - 2 else 0) = nI ll) := by
  by_cases h1 : z < 0
  · exact Or.inl (Or.inl h1)
  · by_cases h2 : nI n < z - 2
    · exact Or.inl (Or.inr h2)
    · right
      have h3 := Int32.not_lt.mp h2
      by_cases h4 : z = 1
      · exact ⟨n, h1, h3, Nat.le_refl _, fun _ => rfl, fun q => absurd h4 q⟩
      · by_cases h5 : (0 : Int32) < z - 2
        · obtain ⟨t, ht, e⟩ := nI_of (x := z - 2) (fun q => absurd h5 (Int32.not_lt.mpr (Int32.le_of_lt q)))
          refine ⟨t, h1, h3, ?_, fun q => absurd q h4, fun _ => by rw [if_pos h5, e]⟩
          rw [e] at h3
          exact (nI_cmp ht (by omega)).mp h3
        · exact ⟨0, h1, h3, Nat.zero_le _, fun q => absurd q h4, fun _ => by rw [if_neg h5]; rfl⟩
section SPL
variable {is : List Nat} {vIn v2 : Nat → Int32} {p1 p2 r : Int32}
theorem sp_A (hno : ¬ isN is.length p1) (h : (¬ isN is.length p1 ∧ r = -1 ∧ v2 = vIn) ∨ (isN is.length p1 ∧ ¬ (0 ≤ p2 ∧ p2 ≤ 255) ∧ r = -2 ∧ v2 = vIn) ∨ (isN is.length p1 ∧ ∃ t, t < 256 ∧ p2 = nI t ∧ r = nI (byA is p1.toNatClampNeg ^^^ t) ∧ gIs v2 (is.set p1.toNatClampNeg (byA is p1.toNatClampNeg ^^^ t)))) : r = -1 ∧ v2 = vIn := by
  rcases h with q | q | q
  · exact q.2
  · exact absurd q.1 hno
  · exact absurd q.1 hno
theorem sp_V {i7 : Nat} (hl : is.length < 2 ^ 30) (hi : i7 < is.length) (hv : p2 < 0 ∨ nI 255 < p2) (h : (¬ isN is.length (nI i7) ∧ r = -1 ∧ v2 = vIn) ∨ (isN is.length (nI i7) ∧ ¬ (0 ≤ p2 ∧ p2 ≤ 255) ∧ r = -2 ∧ v2 = vIn) ∨ (isN is.length (nI i7) ∧ ∃ t, t < 256 ∧ p2 = nI t ∧ r = nI (byA is (nI i7).toNatClampNeg ^^^ t) ∧ gIs v2 (is.set (nI i7).toNatClampNeg (byA is (nI i7).toNatClampNeg ^^^ t)))) : r = -2 ∧ v2 = vIn := by
  have hy : isN is.length (nI i7) := (isN_iff hl).mpr ⟨i7, hi, rfl⟩
  rcases h with q | q | ⟨-, t, ht, e, -⟩
  · exact absurd hy q.1
  · exact q.2.2
  · exfalso
    rcases hv with z | z
    · rw [e] at z; exact absurd z (nI_pos (by omega))
    · rw [e] at z; exact absurd (nI_le (b := 255) (by omega) (by decide)) (Int32.not_le.mpr z)
theorem sp_L {i7 t7 : Nat} (hl : is.length < 2 ^ 30) (hi : i7 < is.length) (ht7 : t7 ≤ 255) (h : (¬ isN is.length (nI i7) ∧ r = -1 ∧ v2 = vIn) ∨ (isN is.length (nI i7) ∧ ¬ (0 ≤ nI t7 ∧ nI t7 ≤ 255) ∧ r = -2 ∧ v2 = vIn) ∨ (isN is.length (nI i7) ∧ ∃ t, t < 256 ∧ nI t7 = nI t ∧ r = nI (byA is (nI i7).toNatClampNeg ^^^ t) ∧ gIs v2 (is.set (nI i7).toNatClampNeg (byA is (nI i7).toNatClampNeg ^^^ t)))) : r = nI (is.getD i7 0 ^^^ t7) ∧ gIs v2 (is.set i7 (is.getD i7 0 ^^^ t7)) := by
  have hy : isN is.length (nI i7) := (isN_iff hl).mpr ⟨i7, hi, rfl⟩
  rcases h with q | q | ⟨-, t, ht, e, h1, h2⟩
  · exact absurd hy q.1
  · exact absurd ⟨nI_pos' (by omega), nI_le (b := 255) ht7 (by decide)⟩ q.2.1
  · have e2 : t7 = t := nI_inj (by omega) (by omega) e
    subst e2
    rw [nI_clamp (by omega)] at h1 h2
    exact ⟨h1, h2⟩
end SPL
theorem ns_cg2 {F G : Nat → Nat} {n : Nat} (h : ∀ k, k < n → F k = G k) : ∀ j, j ≤ n → ns F j = ns G j := fun j hj => ns_cg (fun k hk => h k (by omega))
theorem fs_cg {F G : Nat → Nat} {n u : Nat} (h : ∀ k, k < n → F k = G k) : ∀ k s, s + k ≤ n → fs F u k s = fs G u k s
  | 0, s, _ => rfl
  | k + 1, s, hs => by
    rw [fs, fs, ns_cg2 h (s + 1) (by omega), fs_cg h k (s + 1) (by omega)]
theorem plc_cg {F G : Nat → Nat} {n : Nat} (h : ∀ k, k < n → F k = G k) (p : Nat) : plc F n p = plc G n p := fs_cg h n 0 (by omega)
theorem Fv_cg {f : Nat → Int32} {j n : Nat} {F : Nat → Nat} (h1 : sgI f (64 * j) n F) (hb : ns F n < 2 ^ 31) : ∀ k, k < n → F k = Fvw f j k := fun k hk => (Fv_eq h1 hb k hk).symm
theorem e4_ok {km : Nat} {N : Nat → Nat} {vNow : Nat → Int32} {its : List It} (hok : ∀ i, i < its.length → itOk 512 9 km N vNow (itA its i)) : ∀ (k : Nat) (r : Nat × List Nat), k ≤ its.length → 512 ≤ r.1 → r.1 < 1024 → bt2 r.2 → (e4N (Fvw vNow) N its k r).2.length ≤ r.2.length + 9 * k ∧ bt2 (e4N (Fvw vNow) N its k r).2 := by
  intro k
  induction k with
  | zero => intro r _ _ _ hb; exact ⟨by show r.2.length ≤ _; omega, hb⟩
  | succ k ih =>
    intro r hk h1 h2 hb
    obtain ⟨V, ws⟩ := r
    rw [e4N]
    have hs : 512 ≤ (e4I (Fvw vNow) N (itA its k) (V, ws)).1 ∧ (e4I (Fvw vNow) N (itA its k) (V, ws)).1 < 1024 ∧ (e4I (Fvw vNow) N (itA its k) (V, ws)).2.length ≤ ws.length + 9 ∧ bt2 (e4I (Fvw vNow) N (itA its k) (V, ws)).2 := by
      unfold e4I
      rcases hok k (by omega) with ⟨q1, q2, q3, q4⟩ | ⟨q1, q2, q3, q4, q5, q6⟩
      · rw [if_pos q1]
        exact ⟨h1, h2, by show (ws ++ bvL _ _).length ≤ _; rw [List.length_append, bvL_len]; omega, bt2_app hb (bt2_bv _ _)⟩
      · rw [if_neg q1]
        exact t4I_ok q5 q3 q4 h1 h2 hb
    have z := ih _ (by omega) hs.1 hs.2.1 hs.2.2.2
    refine ⟨?_, z.2⟩
    have a := z.1
    have b := hs.2.2.1
    show _ ≤ ws.length + 9 * (k + 1)
    omega
theorem e4W_len {km : Nat} {N : Nat → Nat} {vNow : Nat → Int32} {its : List It} (hok : ∀ i, i < its.length → itOk 512 9 km N vNow (itA its i)) : (e4W (Fvw vNow) N its).length ≤ 9 * its.length + 9 := by
  have z := (e4_ok hok its.length (512, []) (Nat.le_refl _) (by decide) (by decide) (fun x h => absurd h List.not_mem_nil)).1
  unfold e4W
  rw [List.length_append, bvL_len]
  have : ((512, []) : Nat × List Nat).2.length = 0 := rfl
  omega
theorem e4W_bt {km : Nat} {N : Nat → Nat} {vNow : Nat → Int32} {its : List It} (hok : ∀ i, i < its.length → itOk 512 9 km N vNow (itA its i)) : bt2 (e4W (Fvw vNow) N its) := bt2_app (e4_ok hok its.length (512, []) (Nat.le_refl _) (by decide) (by decide) (fun x h => absurd h List.not_mem_nil)).2 (bt2_bv _ _)
theorem pkB_oct {ws : List Nat} (h : bt2 ws) : ∀ k, oct (pkB ws k)
  | 0 => oct_nil
  | k + 1 => oct_app (pkB_oct h k) (oct_one (Nat.lt_of_lt_of_le (byW_lt h _ 8) (by decide)))
theorem les_cg {n : Nat} : ∀ (r : Nat) {F G : Nat → Nat}, (∀ k, k < n → F k = G k) → ∀ k, k < n → lesN n r F k = lesN n r G k
  | 0, F, G, h, k, hk => h k hk
  | r + 1, F, G, h, k, hk => by
    rw [lesN, lesN, ns_cg h]
    split
    · exact h k hk
    · exact les_cg r (fun q hq => by unfold hv; rw [h q hq]) k hk
theorem gr_cg {F G : Nat → Nat} {n : Nat} (h : ∀ k, k < n → F k = G k) : ∀ j, j ≤ n → gr F j = gr G j
  | 0, _ => rfl
  | j + 1, hj => by
    have e := gr_cg h j (by omega)
    have hl : gr G j < n := by
      rcases Nat.eq_zero_or_pos j with z | z
      · subst z; show 0 < n; omega
      · have := gr_lt G z; omega
    rw [gr, gr, e, h _ hl, h j (by omega)]
theorem up_cg {F G : Nat → Nat} {n a b v w : Nat} (h : ∀ k, k < n → F k = G k) (ha : a = b) (hv : v = w) : ∀ k, k < n → upN F a v k = upN G b w k := by
  subst ha; subst hv
  intro k hk
  by_cases e : k = a
  · subst e; rw [upN_s, upN_s]
  · rw [upN_n _ e, upN_n _ e]; exact h k hk
theorem dec_cg {n : Nat} (hn : 0 < n) : ∀ (e : Nat) {F G : Nat → Nat}, (∀ k, k < n → F k = G k) → ∀ k, k < n → dec n e F k = dec n e G k
  | 0, F, G, h, k, hk => h k hk
  | e + 1, F, G, h, k, hk => by
    have g := gr_cg h n (Nat.le_refl _)
    rw [dec, dec]
    exact dec_cg hn e (up_cg h g (by rw [g, h _ (gr_lt G hn)])) k hk
theorem sc_cg {n M : Nat} (hn : 0 < n) {F G : Nat → Nat} (h : ∀ k, k < n → F k = G k) : ∀ k, k < n → sc n M F k = sc n M G k := by
  intro k hk
  have hs : ns F n = ns G n := ns_cg h
  have hG : ∀ k, k < n → scG n M F k = scG n M G k := fun k hk => by unfold scG; rw [h k hk, hs]
  have hS : ns (scG n M F) n = ns (scG n M G) n := ns_cg hG
  unfold sc
  rw [hs]
  split
  · exact h k hk
  · rw [hS]
    have hd := dec_cg hn (ns (scG n M G) n - M) hG
    generalize dec n (ns (scG n M G) n - M) (scG n M F) = A at hd ⊢
    generalize dec n (ns (scG n M G) n - M) (scG n M G) = B at hd ⊢
    have g := gr_cg hd n (Nat.le_refl _)
    have s2 : ns A n = ns B n := ns_cg hd
    unfold scE
    exact up_cg hd g (by rw [g, hd _ (gr_lt B hn), s2]) k hk
theorem pf_cg {fm n : Nat} {F G : Nat → Nat} (hn : 0 < n) (h : ∀ k, k < n → F k = G k) : ∀ k, k < pfN fm n → pf fm n F k = pf fm n G k := by
  intro k hk
  unfold pf
  unfold pfN at hk
  split
  · rfl
  · rename_i h2
    rw [if_neg h2] at hk
    split
    · exact les_cg 32 h k hk
    · exact sc_cg hn h k hk
theorem mt_setJ {P P2 : Nat → MB → Prop} {a b : List MB} {x y : MB} {j : Nat} (hla : a.length = j) (h : ∀ (i : Nat) (u : MB), (a ++ x :: b)[i]? = some u → P i u) (hk : ∀ i u, i ≠ j → P i u → P2 i u) (hy : P2 j y) : ∀ (i : Nat) (u : MB), (a ++ y :: b)[i]? = some u → P2 i u := by
  subst hla
  exact mt_set h hk hy
end
section
def mT_Carries (n : Nat) (vC vN : Nat → Int32) (j : Nat) (x : MB) : Prop := 2 ≤ n ∧ n ≤ 64 ∧ ∃ (mo ka : Nat) (kf : Nat → Int32) (oo : Nat) (oca opa : Nat) (ocf opf : Nat → Int32) (F : Nat → Nat) (hh : OB), x = (mo, ka, n, kf, (oo, nI n, nI (ns F n), 0, oca, opa, n, ocf, 0, opf), hh) ∧ (∀ k, k < n → kf k = vC (64 * j + k)) ∧ tabI 0 n vN j F ∧ tbI ocf n F
theorem mT_keep_Carries {n a j : Nat} {vC vC2 vN vN2 : Nat → Int32} {x : MB} (h : mT_Carries n vC vN j x) (hC : sgO vC2 vC (64 * a) 64) (hN : sgO vN2 vN (64 * a) 64) (ha : a ≠ j) : mT_Carries n vC2 vN2 j x := by
  obtain ⟨h1, h2, mo, ka, kf, oo, oca, opa, ocf, opf, F, hh, e, q1, q2, q3⟩ := h
  exact ⟨h1, h2, mo, ka, kf, oo, oca, opa, ocf, opf, F, hh, e, fun k hk => by rw [q1 k hk, hC _ (by omega)], tab_keep hN ha h2 q2, q3⟩
theorem mT_TB_Carries {ms : List MB} {N : Nat → Nat} {vC vN : Nat → Int32} (h : ∀ (j : Nat) (x : MB), ms[j]? = some x → mT_Carries (N j) vC vN j x) : TB 0 ms.length N vN := fun j hj => by
  obtain ⟨h1, h2, mo, ka, kf, oo, oca, opa, ocf, opf, F, hh, e, q1, q2, q3⟩ := h j _ (List.getElem?_eq_getElem hj)
  exact ⟨F, q2⟩
theorem pk_Carries {ms : List MB} {N : Nat → Nat} {vC vN : Nat → Int32} {mf : Nat → Option Nat} {j : Nat} (h : ∀ (j : Nat) (x : MB), ms[j]? = some x → mT_Carries (N j) vC vN j x) (hmo : ∀ x ∈ ms, mbOk x) (hmf : mfOk mf ms) (hj : j < ms.length) (h8 : ms.length ≤ 8) : ∃ (a b : List MB) (mo ka : Nat) (kf : Nat → Int32) (oo : Nat) (oca opa : Nat) (ocf opf : Nat → Int32) (F : Nat → Nat) (hh : OB), ms = a ++ (mo, ka, N j, kf, (oo, nI (N j), nI (ns F (N j)), 0, oca, opa, (N j), ocf, 0, opf), hh) :: b ∧ a.length = j ∧ mf j = some mo ∧ obOk hh ∧ 2 ≤ N j ∧ N j ≤ 64 ∧ (∀ k, k < (N j) → kf k = vC (64 * j + k)) ∧ tabI 0 (N j) vN j F ∧ tbI ocf (N j) F := by
  obtain ⟨a, x, b, e, hl⟩ := mb_at hj
  obtain ⟨h1, h2, mo, ka, kf, oo, oca, opa, ocf, opf, F, hh, ex, q⟩ := h j x (by rw [e, ← hl]; exact mb_get)
  have hx := (hmo x (by rw [e]; exact List.mem_append_right _ List.mem_cons_self)).2.2
  have hm : mf j = some x.1 := mf_someE hmf e hl (by omega)
  subst ex
  exact ⟨a, b, mo, ka, kf, oo, oca, opa, ocf, opf, F, hh, e, hl, hm, hx, h1, h2, q⟩
def mT_NoCarries (n : Nat) (vC vN : Nat → Int32) (j : Nat) (x : MB) : Prop := 2 ≤ n ∧ n ≤ 64 ∧ ∃ (mo ka : Nat) (kf : Nat → Int32) (oo : Nat) (oca opa : Nat) (ocf opf : Nat → Int32) (F : Nat → Nat) (hh : OB), x = (mo, ka, n, kf, (oo, nI n, nI (ns F n), 0, oca, opa, n, ocf, 0, opf), hh) ∧ (∀ k, k < n → kf k = vC (64 * j + k)) ∧ tabI 1 n vN j F ∧ tbI ocf n F
theorem mT_keep_NoCarries {n a j : Nat} {vC vC2 vN vN2 : Nat → Int32} {x : MB} (h : mT_NoCarries n vC vN j x) (hC : sgO vC2 vC (64 * a) 64) (hN : sgO vN2 vN (64 * a) 64) (ha : a ≠ j) : mT_NoCarries n vC2 vN2 j x := by
  obtain ⟨h1, h2, mo, ka, kf, oo, oca, opa, ocf, opf, F, hh, e, q1, q2, q3⟩ := h
  exact ⟨h1, h2, mo, ka, kf, oo, oca, opa, ocf, opf, F, hh, e, fun k hk => by rw [q1 k hk, hC _ (by omega)], tab_keep hN ha h2 q2, q3⟩
theorem mT_TB_NoCarries {ms : List MB} {N : Nat → Nat} {vC vN : Nat → Int32} (h : ∀ (j : Nat) (x : MB), ms[j]? = some x → mT_NoCarries (N j) vC vN j x) : TB 1 ms.length N vN := fun j hj => by
  obtain ⟨h1, h2, mo, ka, kf, oo, oca, opa, ocf, opf, F, hh, e, q1, q2, q3⟩ := h j _ (List.getElem?_eq_getElem hj)
  exact ⟨F, q2⟩
theorem pk_NoCarries {ms : List MB} {N : Nat → Nat} {vC vN : Nat → Int32} {mf : Nat → Option Nat} {j : Nat} (h : ∀ (j : Nat) (x : MB), ms[j]? = some x → mT_NoCarries (N j) vC vN j x) (hmo : ∀ x ∈ ms, mbOk x) (hmf : mfOk mf ms) (hj : j < ms.length) (h8 : ms.length ≤ 8) : ∃ (a b : List MB) (mo ka : Nat) (kf : Nat → Int32) (oo : Nat) (oca opa : Nat) (ocf opf : Nat → Int32) (F : Nat → Nat) (hh : OB), ms = a ++ (mo, ka, N j, kf, (oo, nI (N j), nI (ns F (N j)), 0, oca, opa, (N j), ocf, 0, opf), hh) :: b ∧ a.length = j ∧ mf j = some mo ∧ obOk hh ∧ 2 ≤ N j ∧ N j ≤ 64 ∧ (∀ k, k < (N j) → kf k = vC (64 * j + k)) ∧ tabI 1 (N j) vN j F ∧ tbI ocf (N j) F := by
  obtain ⟨a, x, b, e, hl⟩ := mb_at hj
  obtain ⟨h1, h2, mo, ka, kf, oo, oca, opa, ocf, opf, F, hh, ex, q⟩ := h j x (by rw [e, ← hl]; exact mb_get)
  have hx := (hmo x (by rw [e]; exact List.mem_append_right _ List.mem_cons_self)).2.2
  have hm : mf j = some x.1 := mf_someE hmf e hl (by omega)
  subst ex
  exact ⟨a, b, mo, ka, kf, oo, oca, opa, ocf, opf, F, hh, e, hl, hm, hx, h1, h2, q⟩
def mT_Bits (n : Nat) (vC vN : Nat → Int32) (j : Nat) (x : MB) : Prop := 2 ≤ n ∧ n ≤ 64 ∧ ∃ (mo ka : Nat) (kf : Nat → Int32) (oo : Nat) (osm : Int32) (oca opa : Nat) (ocf opf : Nat → Int32) (F : Nat → Nat) (hh : OB), x = (mo, ka, n, kf, (oo, nI n, osm, 1, oca, opa, (2 ^ lev n), ocf, 0, opf), hh) ∧ (∀ k, k < n → kf k = vC (64 * j + k)) ∧ tabI 2 n vN j F ∧ tbI ocf (2 ^ lev n) F
theorem mT_keep_Bits {n a j : Nat} {vC vC2 vN vN2 : Nat → Int32} {x : MB} (h : mT_Bits n vC vN j x) (hC : sgO vC2 vC (64 * a) 64) (hN : sgO vN2 vN (64 * a) 64) (ha : a ≠ j) : mT_Bits n vC2 vN2 j x := by
  obtain ⟨h1, h2, mo, ka, kf, oo, osm, oca, opa, ocf, opf, F, hh, e, q1, q2, q3⟩ := h
  exact ⟨h1, h2, mo, ka, kf, oo, osm, oca, opa, ocf, opf, F, hh, e, fun k hk => by rw [q1 k hk, hC _ (by omega)], tab_keep hN ha h2 q2, q3⟩
theorem mT_TB_Bits {ms : List MB} {N : Nat → Nat} {vC vN : Nat → Int32} (h : ∀ (j : Nat) (x : MB), ms[j]? = some x → mT_Bits (N j) vC vN j x) : TB 2 ms.length N vN := fun j hj => by
  obtain ⟨h1, h2, mo, ka, kf, oo, osm, oca, opa, ocf, opf, F, hh, e, q1, q2, q3⟩ := h j _ (List.getElem?_eq_getElem hj)
  exact ⟨F, q2⟩
theorem pk_Bits {ms : List MB} {N : Nat → Nat} {vC vN : Nat → Int32} {mf : Nat → Option Nat} {j : Nat} (h : ∀ (j : Nat) (x : MB), ms[j]? = some x → mT_Bits (N j) vC vN j x) (hmo : ∀ x ∈ ms, mbOk x) (hmf : mfOk mf ms) (hj : j < ms.length) (h8 : ms.length ≤ 8) : ∃ (a b : List MB) (mo ka : Nat) (kf : Nat → Int32) (oo : Nat) (osm : Int32) (oca opa : Nat) (ocf opf : Nat → Int32) (F : Nat → Nat) (hh : OB), ms = a ++ (mo, ka, N j, kf, (oo, nI (N j), osm, 1, oca, opa, (2 ^ lev (N j)), ocf, 0, opf), hh) :: b ∧ a.length = j ∧ mf j = some mo ∧ obOk hh ∧ 2 ≤ N j ∧ N j ≤ 64 ∧ (∀ k, k < (N j) → kf k = vC (64 * j + k)) ∧ tabI 2 (N j) vN j F ∧ tbI ocf (2 ^ lev (N j)) F := by
  obtain ⟨a, x, b, e, hl⟩ := mb_at hj
  obtain ⟨h1, h2, mo, ka, kf, oo, osm, oca, opa, ocf, opf, F, hh, ex, q⟩ := h j x (by rw [e, ← hl]; exact mb_get)
  have hx := (hmo x (by rw [e]; exact List.mem_append_right _ List.mem_cons_self)).2.2
  have hm : mf j = some x.1 := mf_someE hmf e hl (by omega)
  subst ex
  exact ⟨a, b, mo, ka, kf, oo, osm, oca, opa, ocf, opf, F, hh, e, hl, hm, hx, h1, h2, q⟩
def mT_Stack (n : Nat) (vC vN : Nat → Int32) (j : Nat) (x : MB) : Prop := 2 ≤ n ∧ n ≤ 64 ∧ ∃ (mo ka : Nat) (kf : Nat → Int32) (oo : Nat) (oca opa : Nat) (ocf opf : Nat → Int32) (F : Nat → Nat) (hh : OB), x = (mo, ka, n, kf, (oo, nI n, nI (ns F n), 0, oca, opa, n, ocf, 0, opf), hh) ∧ (∀ k, k < n → kf k = vC (64 * j + k)) ∧ tabI 3 n vN j F ∧ tbI ocf n F
theorem mT_keep_Stack {n a j : Nat} {vC vC2 vN vN2 : Nat → Int32} {x : MB} (h : mT_Stack n vC vN j x) (hC : sgO vC2 vC (64 * a) 64) (hN : sgO vN2 vN (64 * a) 64) (ha : a ≠ j) : mT_Stack n vC2 vN2 j x := by
  obtain ⟨h1, h2, mo, ka, kf, oo, oca, opa, ocf, opf, F, hh, e, q1, q2, q3⟩ := h
  exact ⟨h1, h2, mo, ka, kf, oo, oca, opa, ocf, opf, F, hh, e, fun k hk => by rw [q1 k hk, hC _ (by omega)], tab_keep hN ha h2 q2, q3⟩
theorem mT_TB_Stack {ms : List MB} {N : Nat → Nat} {vC vN : Nat → Int32} (h : ∀ (j : Nat) (x : MB), ms[j]? = some x → mT_Stack (N j) vC vN j x) : TB 3 ms.length N vN := fun j hj => by
  obtain ⟨h1, h2, mo, ka, kf, oo, oca, opa, ocf, opf, F, hh, e, q1, q2, q3⟩ := h j _ (List.getElem?_eq_getElem hj)
  exact ⟨F, q2⟩
theorem pk_Stack {ms : List MB} {N : Nat → Nat} {vC vN : Nat → Int32} {mf : Nat → Option Nat} {j : Nat} (h : ∀ (j : Nat) (x : MB), ms[j]? = some x → mT_Stack (N j) vC vN j x) (hmo : ∀ x ∈ ms, mbOk x) (hmf : mfOk mf ms) (hj : j < ms.length) (h8 : ms.length ≤ 8) : ∃ (a b : List MB) (mo ka : Nat) (kf : Nat → Int32) (oo : Nat) (oca opa : Nat) (ocf opf : Nat → Int32) (F : Nat → Nat) (hh : OB), ms = a ++ (mo, ka, N j, kf, (oo, nI (N j), nI (ns F (N j)), 0, oca, opa, (N j), ocf, 0, opf), hh) :: b ∧ a.length = j ∧ mf j = some mo ∧ obOk hh ∧ 2 ≤ N j ∧ N j ≤ 64 ∧ (∀ k, k < (N j) → kf k = vC (64 * j + k)) ∧ tabI 3 (N j) vN j F ∧ tbI ocf (N j) F := by
  obtain ⟨a, x, b, e, hl⟩ := mb_at hj
  obtain ⟨h1, h2, mo, ka, kf, oo, oca, opa, ocf, opf, F, hh, ex, q⟩ := h j x (by rw [e, ← hl]; exact mb_get)
  have hx := (hmo x (by rw [e]; exact List.mem_append_right _ List.mem_cons_self)).2.2
  have hm : mf j = some x.1 := mf_someE hmf e hl (by omega)
  subst ex
  exact ⟨a, b, mo, ka, kf, oo, oca, opa, ocf, opf, F, hh, e, hl, hm, hx, h1, h2, q⟩
def mT_Table (n : Nat) (vC vN : Nat → Int32) (j : Nat) (x : MB) : Prop := 2 ≤ n ∧ n ≤ 64 ∧ ∃ (mo ka : Nat) (kf : Nat → Int32) (oo : Nat) (oca opa : Nat) (ocf opf : Nat → Int32) (F : Nat → Nat) (hh : OB), x = (mo, ka, n, kf, (oo, nI n, nI (ns F n), 0, oca, opa, n, ocf, 512, opf), hh) ∧ (∀ k, k < n → kf k = vC (64 * j + k)) ∧ tabI 4 n vN j F ∧ tbI ocf n F ∧ layt opf F n (ns F n)
theorem mT_keep_Table {n a j : Nat} {vC vC2 vN vN2 : Nat → Int32} {x : MB} (h : mT_Table n vC vN j x) (hC : sgO vC2 vC (64 * a) 64) (hN : sgO vN2 vN (64 * a) 64) (ha : a ≠ j) : mT_Table n vC2 vN2 j x := by
  obtain ⟨h1, h2, mo, ka, kf, oo, oca, opa, ocf, opf, F, hh, e, q1, q2, q3, q4⟩ := h
  exact ⟨h1, h2, mo, ka, kf, oo, oca, opa, ocf, opf, F, hh, e, fun k hk => by rw [q1 k hk, hC _ (by omega)], tab_keep hN ha h2 q2, q3, q4⟩
theorem mT_TB_Table {ms : List MB} {N : Nat → Nat} {vC vN : Nat → Int32} (h : ∀ (j : Nat) (x : MB), ms[j]? = some x → mT_Table (N j) vC vN j x) : TB 4 ms.length N vN := fun j hj => by
  obtain ⟨h1, h2, mo, ka, kf, oo, oca, opa, ocf, opf, F, hh, e, q1, q2, q3, q4⟩ := h j _ (List.getElem?_eq_getElem hj)
  exact ⟨F, q2⟩
theorem pk_Table {ms : List MB} {N : Nat → Nat} {vC vN : Nat → Int32} {mf : Nat → Option Nat} {j : Nat} (h : ∀ (j : Nat) (x : MB), ms[j]? = some x → mT_Table (N j) vC vN j x) (hmo : ∀ x ∈ ms, mbOk x) (hmf : mfOk mf ms) (hj : j < ms.length) (h8 : ms.length ≤ 8) : ∃ (a b : List MB) (mo ka : Nat) (kf : Nat → Int32) (oo : Nat) (oca opa : Nat) (ocf opf : Nat → Int32) (F : Nat → Nat) (hh : OB), ms = a ++ (mo, ka, N j, kf, (oo, nI (N j), nI (ns F (N j)), 0, oca, opa, (N j), ocf, 512, opf), hh) :: b ∧ a.length = j ∧ mf j = some mo ∧ obOk hh ∧ 2 ≤ N j ∧ N j ≤ 64 ∧ (∀ k, k < (N j) → kf k = vC (64 * j + k)) ∧ tabI 4 (N j) vN j F ∧ tbI ocf (N j) F ∧ layt opf F (N j) (ns F (N j)) := by
  obtain ⟨a, x, b, e, hl⟩ := mb_at hj
  obtain ⟨h1, h2, mo, ka, kf, oo, oca, opa, ocf, opf, F, hh, ex, q⟩ := h j x (by rw [e, ← hl]; exact mb_get)
  have hx := (hmo x (by rw [e]; exact List.mem_append_right _ List.mem_cons_self)).2.2
  have hm : mf j = some x.1 := mf_someE hmf e hl (by omega)
  subst ex
  exact ⟨a, b, mo, ka, kf, oo, oca, opa, ocf, opf, F, hh, e, hl, hm, hx, h1, h2, q⟩
theorem mT_rd_Carries {ms msq : List MB} {N : Nat → Nat} {vC vN : Nat → Int32} {j : Nat} {y : MB} (h : ∀ (j : Nat) (x : MB), ms[j]? = some x → mT_Carries (N j) vC vN j x) (hl : ms.length = msq.length) (hma : msq.map mbA = ms.map mbA) (hs : ∀ (i : Nat) (u v : MB), ms[i]? = some u → msq[i]? = some v → sameS u v) (hy : msq[j]? = some y) : mT_Carries (N j) vC vN j y := by
  have hj : j < ms.length := by rw [hl]; exact (List.getElem?_eq_some_iff.mp hy).1
  have hu := List.getElem?_eq_getElem hj
  generalize ms[j] = u at hu
  obtain ⟨f1, f2, f3⟩ := hs j _ y hu hy
  obtain ⟨h1, h2, mo, ka, kf, oo, oca, opa, ocf, opf, F, hh, e, q⟩ := h j _ hu
  subst e
  obtain ⟨y1, y2, y3, y4, y5, y6⟩ := y
  have e1 : y3 = N j := f1
  have e2 : y4 = kf := f2
  have e3 : y5 = (oo, nI (N j), nI (ns F (N j)), 0, oca, opa, (N j), ocf, 0, opf) := f3
  clear f1 f2 f3
  subst e3; subst e1; subst e2
  exact ⟨h1, h2, y1, y2, y4, oo, oca, opa, ocf, opf, F, y6, rfl, q⟩
theorem mT_bg_Carries {ms msq : List MB} {km : Nat} {N : Nat → Nat} {vMany vC vN vN2 : Nat → Int32} {j : Nat} {y : MB} (hj : j < km) (h : ∀ (j : Nat) (x : MB), ms[j]? = some x → mT_Carries (N j) vC vN j x) (hMD : MD km N vMany vC) (hl : ms.length = msq.length) (hs : ∀ (i : Nat) (u v : MB), ms[i]? = some u → msq[i]? = some v → nw_Carries u v) (hT : pfA 0 km N vC vN2) (hy : msq[j]? = some y) : mT_Carries (N j) vC vN2 j y := by
  have hj2 : j < ms.length := by rw [hl]; exact (List.getElem?_eq_some_iff.mp hy).1
  have hu := List.getElem?_eq_getElem hj2
  generalize ms[j] = u at hu
  obtain ⟨e1, e2, -, e4, e5⟩ := hs j _ y hu hy
  obtain ⟨h1, h2, mo, ka, kf, oo, oca, opa, ocf, opf, F, hh, e, q1, -⟩ := h j _ hu
  have h3 : mK u = N j := by rw [e]
  have h4 : ∀ k, k < N j → mF u k = vC (64 * j + k) := fun k hk => by rw [e]; exact q1 k hk
  have hC := MD_C hMD hj
  have hz := Cx_tb (x := u) (n := N j) (C := Fvw vC j) (fun k hk => by rw [h4 k hk]; exact hC.1 k hk) hC.2
  have ht : sgI vN2 (64 * j) (pfN 0 (N j)) (pf 0 (N j) (Cx u)) := sgI_c (hT j hj) (pf_cg (show 0 < N j by omega) (fun k hk => (hz.1 k hk).symm))
  rw [h3] at e1 e4 e5
  obtain ⟨y1, y2, y3, y4, ⟨o1, o2, o3, o4, o5, o6, o7, o8, o9, o10⟩, y6⟩ := y
  obtain ⟨g1, g2, g3, g4⟩ := e4
  have e1 : y3 = N j := e1
  have e2 : y4 = mF u := e2
  have g1 : o2 = _ := g1
  have g2 : o4 = _ := g2
  have g3 : o7 = _ := g3
  have g4 : o9 = _ := g4
  obtain ⟨f1, f2⟩ := e5
  have f2 : o3 = _ := f2
  subst f2
  subst e1; subst e2; subst g1; subst g2; subst g3; subst g4
  exact ⟨h1, h2, y1, y2, mF u, o1, o5, o6, o8, o10, (les (N j) (Cx u)), y6, rfl, h4, tab_pf (by decide) h2 (by omega) (fun k hk => by rw [hz.1 k hk]; exact hC.2 k hk) ht, f1⟩
theorem mT_rd_NoCarries {ms msq : List MB} {N : Nat → Nat} {vC vN : Nat → Int32} {j : Nat} {y : MB} (h : ∀ (j : Nat) (x : MB), ms[j]? = some x → mT_NoCarries (N j) vC vN j x) (hl : ms.length = msq.length) (hma : msq.map mbA = ms.map mbA) (hs : ∀ (i : Nat) (u v : MB), ms[i]? = some u → msq[i]? = some v → sameS u v) (hy : msq[j]? = some y) : mT_NoCarries (N j) vC vN j y := by
  have hj : j < ms.length := by rw [hl]; exact (List.getElem?_eq_some_iff.mp hy).1
  have hu := List.getElem?_eq_getElem hj
  generalize ms[j] = u at hu
  obtain ⟨f1, f2, f3⟩ := hs j _ y hu hy
  obtain ⟨h1, h2, mo, ka, kf, oo, oca, opa, ocf, opf, F, hh, e, q⟩ := h j _ hu
  subst e
  obtain ⟨y1, y2, y3, y4, y5, y6⟩ := y
  have e1 : y3 = N j := f1
  have e2 : y4 = kf := f2
  have e3 : y5 = (oo, nI (N j), nI (ns F (N j)), 0, oca, opa, (N j), ocf, 0, opf) := f3
  clear f1 f2 f3
  subst e3; subst e1; subst e2
  exact ⟨h1, h2, y1, y2, y4, oo, oca, opa, ocf, opf, F, y6, rfl, q⟩
theorem mT_bg_NoCarries {ms msq : List MB} {km : Nat} {N : Nat → Nat} {vMany vC vN vN2 : Nat → Int32} {j : Nat} {y : MB} (hj : j < km) (h : ∀ (j : Nat) (x : MB), ms[j]? = some x → mT_NoCarries (N j) vC vN j x) (hMD : MD km N vMany vC) (hl : ms.length = msq.length) (hs : ∀ (i : Nat) (u v : MB), ms[i]? = some u → msq[i]? = some v → nw_NoCarries u v) (hT : pfA 1 km N vC vN2) (hy : msq[j]? = some y) : mT_NoCarries (N j) vC vN2 j y := by
  have hj2 : j < ms.length := by rw [hl]; exact (List.getElem?_eq_some_iff.mp hy).1
  have hu := List.getElem?_eq_getElem hj2
  generalize ms[j] = u at hu
  obtain ⟨e1, e2, -, e4, e5⟩ := hs j _ y hu hy
  obtain ⟨h1, h2, mo, ka, kf, oo, oca, opa, ocf, opf, F, hh, e, q1, -⟩ := h j _ hu
  have h3 : mK u = N j := by rw [e]
  have h4 : ∀ k, k < N j → mF u k = vC (64 * j + k) := fun k hk => by rw [e]; exact q1 k hk
  have hC := MD_C hMD hj
  have hz := Cx_tb (x := u) (n := N j) (C := Fvw vC j) (fun k hk => by rw [h4 k hk]; exact hC.1 k hk) hC.2
  have ht : sgI vN2 (64 * j) (pfN 1 (N j)) (pf 1 (N j) (Cx u)) := sgI_c (hT j hj) (pf_cg (show 0 < N j by omega) (fun k hk => (hz.1 k hk).symm))
  rw [h3] at e1 e4 e5
  obtain ⟨y1, y2, y3, y4, ⟨o1, o2, o3, o4, o5, o6, o7, o8, o9, o10⟩, y6⟩ := y
  obtain ⟨g1, g2, g3, g4⟩ := e4
  have e1 : y3 = N j := e1
  have e2 : y4 = mF u := e2
  have g1 : o2 = _ := g1
  have g2 : o4 = _ := g2
  have g3 : o7 = _ := g3
  have g4 : o9 = _ := g4
  obtain ⟨f1, f2⟩ := e5
  have f2 : o3 = _ := f2
  subst f2
  subst e1; subst e2; subst g1; subst g2; subst g3; subst g4
  exact ⟨h1, h2, y1, y2, mF u, o1, o5, o6, o8, o10, (les (N j) (Cx u)), y6, rfl, h4, tab_pf (by decide) h2 (by omega) (fun k hk => by rw [hz.1 k hk]; exact hC.2 k hk) ht, f1⟩
theorem mT_rd_Bits {ms msq : List MB} {N : Nat → Nat} {vC vN : Nat → Int32} {j : Nat} {y : MB} (h : ∀ (j : Nat) (x : MB), ms[j]? = some x → mT_Bits (N j) vC vN j x) (hl : ms.length = msq.length) (hma : msq.map mbA = ms.map mbA) (hs : ∀ (i : Nat) (u v : MB), ms[i]? = some u → msq[i]? = some v → sameS u v) (hy : msq[j]? = some y) : mT_Bits (N j) vC vN j y := by
  have hj : j < ms.length := by rw [hl]; exact (List.getElem?_eq_some_iff.mp hy).1
  have hu := List.getElem?_eq_getElem hj
  generalize ms[j] = u at hu
  obtain ⟨f1, f2, f3⟩ := hs j _ y hu hy
  obtain ⟨h1, h2, mo, ka, kf, oo, osm, oca, opa, ocf, opf, F, hh, e, q⟩ := h j _ hu
  subst e
  obtain ⟨y1, y2, y3, y4, y5, y6⟩ := y
  have e1 : y3 = N j := f1
  have e2 : y4 = kf := f2
  have e3 : y5 = (oo, nI (N j), osm, 1, oca, opa, (2 ^ lev (N j)), ocf, 0, opf) := f3
  clear f1 f2 f3
  subst e3; subst e1; subst e2
  exact ⟨h1, h2, y1, y2, y4, oo, osm, oca, opa, ocf, opf, F, y6, rfl, q⟩
theorem mT_bg_Bits {ms msq : List MB} {km : Nat} {N : Nat → Nat} {vMany vC vN vN2 : Nat → Int32} {j : Nat} {y : MB} (hj : j < km) (h : ∀ (j : Nat) (x : MB), ms[j]? = some x → mT_Bits (N j) vC vN j x) (hMD : MD km N vMany vC) (hl : ms.length = msq.length) (hs : ∀ (i : Nat) (u v : MB), ms[i]? = some u → msq[i]? = some v → nw_Bits u v) (hT : pfA 2 km N vC vN2) (hy : msq[j]? = some y) : mT_Bits (N j) vC vN2 j y := by
  have hj2 : j < ms.length := by rw [hl]; exact (List.getElem?_eq_some_iff.mp hy).1
  have hu := List.getElem?_eq_getElem hj2
  generalize ms[j] = u at hu
  obtain ⟨e1, e2, -, e4, e5⟩ := hs j _ y hu hy
  obtain ⟨h1, h2, mo, ka, kf, oo, osm, oca, opa, ocf, opf, F, hh, e, q1, -⟩ := h j _ hu
  have h3 : mK u = N j := by rw [e]
  have h4 : ∀ k, k < N j → mF u k = vC (64 * j + k) := fun k hk => by rw [e]; exact q1 k hk
  have hC := MD_C hMD hj
  have hz := Cx_tb (x := u) (n := N j) (C := Fvw vC j) (fun k hk => by rw [h4 k hk]; exact hC.1 k hk) hC.2
  have ht : sgI vN2 (64 * j) (pfN 2 (N j)) (pf 2 (N j) (Cx u)) := sgI_c (hT j hj) (pf_cg (show 0 < N j by omega) (fun k hk => (hz.1 k hk).symm))
  rw [h3] at e1 e4 e5
  obtain ⟨y1, y2, y3, y4, ⟨o1, o2, o3, o4, o5, o6, o7, o8, o9, o10⟩, y6⟩ := y
  obtain ⟨g1, g2, g3, g4⟩ := e4
  have e1 : y3 = N j := e1
  have e2 : y4 = mF u := e2
  have g1 : o2 = _ := g1
  have g2 : o4 = _ := g2
  have g3 : o7 = _ := g3
  have g4 : o9 = _ := g4
  have f1 := e5
  subst e1; subst e2; subst g1; subst g2; subst g3; subst g4
  exact ⟨h1, h2, y1, y2, mF u, o1, o3, o5, o6, o8, o10, (fun _ => 1024), y6, rfl, h4, tab_pf (by decide) h2 (by omega) (fun k hk => by rw [hz.1 k hk]; exact hC.2 k hk) ht, f1⟩
theorem mT_rd_Stack {ms msq : List MB} {N : Nat → Nat} {vC vN : Nat → Int32} {j : Nat} {y : MB} (h : ∀ (j : Nat) (x : MB), ms[j]? = some x → mT_Stack (N j) vC vN j x) (hl : ms.length = msq.length) (hma : msq.map mbA = ms.map mbA) (hs : ∀ (i : Nat) (u v : MB), ms[i]? = some u → msq[i]? = some v → sameS u v) (hy : msq[j]? = some y) : mT_Stack (N j) vC vN j y := by
  have hj : j < ms.length := by rw [hl]; exact (List.getElem?_eq_some_iff.mp hy).1
  have hu := List.getElem?_eq_getElem hj
  generalize ms[j] = u at hu
  obtain ⟨f1, f2, f3⟩ := hs j _ y hu hy
  obtain ⟨h1, h2, mo, ka, kf, oo, oca, opa, ocf, opf, F, hh, e, q⟩ := h j _ hu
  subst e
  obtain ⟨y1, y2, y3, y4, y5, y6⟩ := y
  have e1 : y3 = N j := f1
  have e2 : y4 = kf := f2
  have e3 : y5 = (oo, nI (N j), nI (ns F (N j)), 0, oca, opa, (N j), ocf, 0, opf) := f3
  clear f1 f2 f3
  subst e3; subst e1; subst e2
  exact ⟨h1, h2, y1, y2, y4, oo, oca, opa, ocf, opf, F, y6, rfl, q⟩
theorem mT_bg_Stack {ms msq : List MB} {km : Nat} {N : Nat → Nat} {vMany vC vN vN2 : Nat → Int32} {j : Nat} {y : MB} (hj : j < km) (h : ∀ (j : Nat) (x : MB), ms[j]? = some x → mT_Stack (N j) vC vN j x) (hMD : MD km N vMany vC) (hl : ms.length = msq.length) (hs : ∀ (i : Nat) (u v : MB), ms[i]? = some u → msq[i]? = some v → nw_Stack u v) (hT : pfA 3 km N vC vN2) (hy : msq[j]? = some y) : mT_Stack (N j) vC vN2 j y := by
  have hj2 : j < ms.length := by rw [hl]; exact (List.getElem?_eq_some_iff.mp hy).1
  have hu := List.getElem?_eq_getElem hj2
  generalize ms[j] = u at hu
  obtain ⟨e1, e2, -, e4, e5⟩ := hs j _ y hu hy
  obtain ⟨h1, h2, mo, ka, kf, oo, oca, opa, ocf, opf, F, hh, e, q1, -⟩ := h j _ hu
  have h3 : mK u = N j := by rw [e]
  have h4 : ∀ k, k < N j → mF u k = vC (64 * j + k) := fun k hk => by rw [e]; exact q1 k hk
  have hC := MD_C hMD hj
  have hz := Cx_tb (x := u) (n := N j) (C := Fvw vC j) (fun k hk => by rw [h4 k hk]; exact hC.1 k hk) hC.2
  have ht : sgI vN2 (64 * j) (pfN 3 (N j)) (pf 3 (N j) (Cx u)) := sgI_c (hT j hj) (pf_cg (show 0 < N j by omega) (fun k hk => (hz.1 k hk).symm))
  rw [h3] at e1 e4 e5
  obtain ⟨y1, y2, y3, y4, ⟨o1, o2, o3, o4, o5, o6, o7, o8, o9, o10⟩, y6⟩ := y
  obtain ⟨g1, g2, g3, g4⟩ := e4
  have e1 : y3 = N j := e1
  have e2 : y4 = mF u := e2
  have g1 : o2 = _ := g1
  have g2 : o4 = _ := g2
  have g3 : o7 = _ := g3
  have g4 : o9 = _ := g4
  obtain ⟨f1, f2⟩ := e5
  have f2 : o3 = _ := f2
  subst f2
  subst e1; subst e2; subst g1; subst g2; subst g3; subst g4
  exact ⟨h1, h2, y1, y2, mF u, o1, o5, o6, o8, o10, (sc (N j) 4096 (Cx u)), y6, rfl, h4, tab_pf (by decide) h2 (by omega) (fun k hk => by rw [hz.1 k hk]; exact hC.2 k hk) ht, f1⟩
theorem mT_rd_Table {ms msq : List MB} {N : Nat → Nat} {vC vN : Nat → Int32} {j : Nat} {y : MB} (h : ∀ (j : Nat) (x : MB), ms[j]? = some x → mT_Table (N j) vC vN j x) (hl : ms.length = msq.length) (hma : msq.map mbA = ms.map mbA) (hs : ∀ (i : Nat) (u v : MB), ms[i]? = some u → msq[i]? = some v → sameS u v) (hy : msq[j]? = some y) : mT_Table (N j) vC vN j y := by
  have hj : j < ms.length := by rw [hl]; exact (List.getElem?_eq_some_iff.mp hy).1
  have hu := List.getElem?_eq_getElem hj
  generalize ms[j] = u at hu
  obtain ⟨f1, f2, f3⟩ := hs j _ y hu hy
  obtain ⟨h1, h2, mo, ka, kf, oo, oca, opa, ocf, opf, F, hh, e, q⟩ := h j _ hu
  subst e
  obtain ⟨y1, y2, y3, y4, y5, y6⟩ := y
  have e1 : y3 = N j := f1
  have e2 : y4 = kf := f2
  have e3 : y5 = (oo, nI (N j), nI (ns F (N j)), 0, oca, opa, (N j), ocf, 512, opf) := f3
  clear f1 f2 f3
  subst e3; subst e1; subst e2
  exact ⟨h1, h2, y1, y2, y4, oo, oca, opa, ocf, opf, F, y6, rfl, q⟩
theorem mT_bg_Table {ms msq : List MB} {km : Nat} {N : Nat → Nat} {vMany vC vN vN2 : Nat → Int32} {j : Nat} {y : MB} (hj : j < km) (h : ∀ (j : Nat) (x : MB), ms[j]? = some x → mT_Table (N j) vC vN j x) (hMD : MD km N vMany vC) (hl : ms.length = msq.length) (hs : ∀ (i : Nat) (u v : MB), ms[i]? = some u → msq[i]? = some v → nw_Table u v) (hT : pfA 4 km N vC vN2) (hy : msq[j]? = some y) : mT_Table (N j) vC vN2 j y := by
  have hj2 : j < ms.length := by rw [hl]; exact (List.getElem?_eq_some_iff.mp hy).1
  have hu := List.getElem?_eq_getElem hj2
  generalize ms[j] = u at hu
  obtain ⟨e1, e2, -, e4, e5⟩ := hs j _ y hu hy
  obtain ⟨h1, h2, mo, ka, kf, oo, oca, opa, ocf, opf, F, hh, e, q1, -⟩ := h j _ hu
  have h3 : mK u = N j := by rw [e]
  have h4 : ∀ k, k < N j → mF u k = vC (64 * j + k) := fun k hk => by rw [e]; exact q1 k hk
  have hC := MD_C hMD hj
  have hz := Cx_tb (x := u) (n := N j) (C := Fvw vC j) (fun k hk => by rw [h4 k hk]; exact hC.1 k hk) hC.2
  have ht : sgI vN2 (64 * j) (pfN 4 (N j)) (pf 4 (N j) (Cx u)) := sgI_c (hT j hj) (pf_cg (show 0 < N j by omega) (fun k hk => (hz.1 k hk).symm))
  rw [h3] at e1 e4 e5
  obtain ⟨y1, y2, y3, y4, ⟨o1, o2, o3, o4, o5, o6, o7, o8, o9, o10⟩, y6⟩ := y
  obtain ⟨g1, g2, g3, g4⟩ := e4
  have e1 : y3 = N j := e1
  have e2 : y4 = mF u := e2
  have g1 : o2 = _ := g1
  have g2 : o4 = _ := g2
  have g3 : o7 = _ := g3
  have g4 : o9 = _ := g4
  obtain ⟨f1, f2, f3⟩ := e5
  have f2 : o3 = _ := f2
  subst f2
  subst e1; subst e2; subst g1; subst g2; subst g3; subst g4
  exact ⟨h1, h2, y1, y2, mF u, o1, o5, o6, o8, o10, (sc (N j) 512 (Cx u)), y6, rfl, h4, tab_pf (by decide) h2 (by omega) (fun k hk => by rw [hz.1 k hk]; exact hC.2 k hk) ht, f1, f3⟩
theorem mT_ok_Carries {n j : Nat} {vC vN : Nat → Int32} {x : MB} (h : mT_Carries n vC vN j x) (hC : sgI vC (64 * j) n (Fvw vC j) ∧ bd (Fvw vC j) n 4095) : mOk_Carries x := by
  obtain ⟨h1, h2, mo, ka, kf, oo, oca, opa, ocf, opf, F, hh, e, q1, -⟩ := h
  have h4 : ∀ k, k < n → mF x k = vC (64 * j + k) := fun k hk => by rw [e]; exact q1 k hk
  have hz := Cx_tb (x := x) (n := n) (C := Fvw vC j) (fun k hk => by rw [h4 k hk]; exact hC.1 k hk) hC.2
  have h3 : mK x = n := by rw [e]
  refine ⟨by rw [h3]; exact h1, by rw [h3]; exact h2, ?_, by rw [h3]; exact hz.2, by rw [h3]; exact fun k hk => by rw [hz.1 k hk]; exact hC.2 k hk⟩
  rw [h3, e]
  exact ⟨rfl, rfl, rfl, rfl⟩
theorem mT_ok_NoCarries {n j : Nat} {vC vN : Nat → Int32} {x : MB} (h : mT_NoCarries n vC vN j x) (hC : sgI vC (64 * j) n (Fvw vC j) ∧ bd (Fvw vC j) n 4095) : mOk_NoCarries x := by
  obtain ⟨h1, h2, mo, ka, kf, oo, oca, opa, ocf, opf, F, hh, e, q1, -⟩ := h
  have h4 : ∀ k, k < n → mF x k = vC (64 * j + k) := fun k hk => by rw [e]; exact q1 k hk
  have hz := Cx_tb (x := x) (n := n) (C := Fvw vC j) (fun k hk => by rw [h4 k hk]; exact hC.1 k hk) hC.2
  have h3 : mK x = n := by rw [e]
  refine ⟨by rw [h3]; exact h1, by rw [h3]; exact h2, ?_, by rw [h3]; exact hz.2, by rw [h3]; exact fun k hk => by rw [hz.1 k hk]; exact hC.2 k hk⟩
  rw [h3, e]
  exact ⟨rfl, rfl, rfl, rfl⟩
theorem mT_ok_Bits {n j : Nat} {vC vN : Nat → Int32} {x : MB} (h : mT_Bits n vC vN j x) (hC : sgI vC (64 * j) n (Fvw vC j) ∧ bd (Fvw vC j) n 4095) : mOk_Bits x := by
  obtain ⟨h1, h2, mo, ka, kf, oo, osm, oca, opa, ocf, opf, F, hh, e, q1, -⟩ := h
  have h4 : ∀ k, k < n → mF x k = vC (64 * j + k) := fun k hk => by rw [e]; exact q1 k hk
  have hz := Cx_tb (x := x) (n := n) (C := Fvw vC j) (fun k hk => by rw [h4 k hk]; exact hC.1 k hk) hC.2
  have h3 : mK x = n := by rw [e]
  refine ⟨by rw [h3]; exact h1, by rw [h3]; exact h2, ?_, by rw [h3]; exact hz.2, by rw [h3]; exact fun k hk => by rw [hz.1 k hk]; exact hC.2 k hk⟩
  rw [h3, e]
  exact ⟨rfl, rfl, rfl, rfl⟩
theorem mT_ok_Stack {n j : Nat} {vC vN : Nat → Int32} {x : MB} (h : mT_Stack n vC vN j x) (hC : sgI vC (64 * j) n (Fvw vC j) ∧ bd (Fvw vC j) n 4095) : mOk_Stack x := by
  obtain ⟨h1, h2, mo, ka, kf, oo, oca, opa, ocf, opf, F, hh, e, q1, -⟩ := h
  have h4 : ∀ k, k < n → mF x k = vC (64 * j + k) := fun k hk => by rw [e]; exact q1 k hk
  have hz := Cx_tb (x := x) (n := n) (C := Fvw vC j) (fun k hk => by rw [h4 k hk]; exact hC.1 k hk) hC.2
  have h3 : mK x = n := by rw [e]
  refine ⟨by rw [h3]; exact h1, by rw [h3]; exact h2, ?_, by rw [h3]; exact hz.2, by rw [h3]; exact fun k hk => by rw [hz.1 k hk]; exact hC.2 k hk⟩
  rw [h3, e]
  exact ⟨rfl, rfl, rfl, rfl⟩
theorem mT_ok_Table {n j : Nat} {vC vN : Nat → Int32} {x : MB} (h : mT_Table n vC vN j x) (hC : sgI vC (64 * j) n (Fvw vC j) ∧ bd (Fvw vC j) n 4095) : mOk_Table x := by
  obtain ⟨h1, h2, mo, ka, kf, oo, oca, opa, ocf, opf, F, hh, e, q1, -⟩ := h
  have h4 : ∀ k, k < n → mF x k = vC (64 * j + k) := fun k hk => by rw [e]; exact q1 k hk
  have hz := Cx_tb (x := x) (n := n) (C := Fvw vC j) (fun k hk => by rw [h4 k hk]; exact hC.1 k hk) hC.2
  have h3 : mK x = n := by rw [e]
  refine ⟨by rw [h3]; exact h1, by rw [h3]; exact h2, ?_, by rw [h3]; exact hz.2, by rw [h3]; exact fun k hk => by rw [hz.1 k hk]; exact hC.2 k hk⟩
  rw [h3, e]
  exact ⟨rfl, rfl, rfl, rfl⟩
theorem ob_of_Stack {n j : Nat} {vC vN : Nat → Int32} {x : MB} (h : mT_Stack n vC vN j x) (z1 : ns (Fvw vN j) n = 4096) (z2 : sgI vN (64 * j) n (Fvw vN j)) : ob3 (mS x) n (Fvw vN j) := by
  obtain ⟨h1, h2, mo, ka, kf, oo, oca, opa, ocf, opf, F, hh, e, q1, h6, h7⟩ := h
  subst e
  obtain ⟨hs, ht⟩ := tab_3 h6
  have hc := Fv_cg hs (by rcases ht with q | q <;> omega)
  have hf : tbI ocf n (Fvw vN j) := fun k hk => by rw [← hc k hk]; exact h7 k hk
  exact ⟨h2, rfl, rfl, hf, (by decide : 0 ≤ 512)⟩
theorem ob_of_Table {n j : Nat} {vC vN : Nat → Int32} {x : MB} (h : mT_Table n vC vN j x) (z1 : ns (Fvw vN j) n = 512) (z2 : sgI vN (64 * j) n (Fvw vN j)) : ob4 (mS x) n (Fvw vN j) := by
  obtain ⟨h1, h2, mo, ka, kf, oo, oca, opa, ocf, opf, F, hh, e, q1, h6, h7, hl⟩ := h
  subst e
  obtain ⟨hs, ht⟩ := tab_4 h6
  have hc := Fv_cg hs (by rcases ht with q | q <;> omega)
  have hf : tbI ocf n (Fvw vN j) := fun k hk => by rw [← hc k hk]; exact h7 k hk
  refine ⟨h2, rfl, rfl, hf, rfl, fun p hp => ?_⟩
  rw [show ns F n = 512 by rw [ns_cg (fun k hk => hc k hk)]; exact z1] at hl
  rw [← plc_cg hc p]
  exact layt_e hl p hp
theorem sg_cs (z : Int32) {n : Nat} (hn : n ≤ 64) : (z < 0 ∨ nI n ≤ z) ∨ ∃ t, t < n ∧ z = nI t := by
  by_cases h1 : z < 0
  · exact Or.inl (Or.inl h1)
  · by_cases h2 : nI n ≤ z
    · exact Or.inl (Or.inr h2)
    · right
      obtain ⟨t, ht, rfl⟩ := nI_of h1
      exact ⟨t, nI_lt' ht h2, rfl⟩
theorem v_cs (z : Int32) {m : Nat} (hm : m < 2 ^ 31) : (z < 0 ∨ nI m < z) ∨ ∃ c, c ≤ m ∧ z = nI c := by
  by_cases h1 : z < 0
  · exact Or.inl (Or.inl h1)
  · by_cases h2 : nI m < z
    · exact Or.inl (Or.inr h2)
    · right
      obtain ⟨t, ht, rfl⟩ := nI_of h1
      exact ⟨t, (nI_cmp ht hm).mp (Int32.not_lt.mp h2), rfl⟩
theorem nd_cs (z : Int32) {n : Nat} (hn : n ≤ 64) : (z < 1 ∨ z < 0 ∨ nI n ≤ z) ∨ ∃ t, 1 ≤ t ∧ t < n ∧ z = nI t := by
  by_cases h1 : z < 1
  · exact Or.inl (Or.inl h1)
  · rcases sg_cs z hn with q | ⟨t, ht, rfl⟩
    · exact Or.inl (Or.inr q)
    · refine Or.inr ⟨t, ?_, ht, rfl⟩
      rcases Nat.eq_zero_or_pos t with e | e
      · subst e; exact absurd (by decide) h1
      · exact e
end
section
def LI_Carries (dC : Nat → ClassId) (dI : Nat → Nat → Nat) (cI cM cO : ClassId) (A : Nat → Prop) (rc o cn dd : Nat) (H : Heap) : Prop := ∀ (C9 : Prop), (∀ (ms : List MB) (is : List Nat) (os : List Nat) (fit : Int32) (fen : Int32) (frd : Int32) (fbd : Int32) (fir : Int32) (mf : Nat → Option Nat) (ma : Nat) (co : Nat) (xcache : Int32) (xpending : Int32) (xlow : Int64) (xrange : Int64) (xcode : Int64) (xreadLow : Int64) (xreadRange : Int64) (ri : Nat) (ro : Nat) (rw : Nat) (xasked : Int32) (ria : Nat) (rik : Nat) (rif : Nat → Int32) (roa : Nat) (rok : Nat) (rof : Nat → Int32) (rwn : Int32) (rwa : Nat) (rwk : Nat) (rwf : Nat → Int32) (g : Nat → Nat) (fShift : Int32) (fLow : Int64) (fRange : Int64) (fCache : Int32) (fPend : Int32) (fGoes : Int32) (fBad : Int32) (fIR : Int32) (fAsk : Int32) (fBAsk : Int32) (fCode : Int64) (fRL : Int64) (fRR : Int64) (fX : Int64) (fWrites : Int32) (fThrown : Int32) (vMany : Nat → Int32) (vCounts : Nat → Int32) (vNow : Nat → Int32) (vThen : Nat → Int32) (vIM : Nat → Int32) (vIW : Nat → Int32) (vGoing : Nat → Int32) (vOut : Nat → Int32) (vIn : Nat → Int32) (vSO : Nat → Int32) (vNO : Nat → Int32) (vWr : Nat → Int32) (N : Nat → Nat), va_P (dC, dI) vwCl ([(rc, Sum.inr (6, [Value.ref co, Value.ref ma, Value.int (nI ms.length), Value.int fit, Value.int fen, Value.int frd, Value.int fbd, Value.int fir])), (ma, Sum.inl (cM, 8, Sum.inr (Sum.inr (Sum.inr (Sum.inr mf))))), (co, Sum.inr (1, [Value.int xcache, Value.int xpending, Value.long xlow, Value.long xrange, Value.long xcode, Value.long xreadLow, Value.long xreadRange, Value.ref ri, Value.ref ro, Value.ref rw, Value.int xasked])), (ri, Sum.inr (0, [Value.int (nI is.length), Value.ref ria])), (ria, Sum.inl (cI, rik, Sum.inl rif)), (ro, Sum.inr (0, [Value.int (nI os.length), Value.ref roa])), (roa, Sum.inl (cI, rok, Sum.inl rof)), (rw, Sum.inr (0, [Value.int rwn, Value.ref rwa])), (rwa, Sum.inl (cI, rwk, Sum.inl rwf)), (o, Sum.inr (9, mO g 0 fShift (nI ms.length) fit fen fLow fRange fCache fPend fGoes (nI os.length) (nI is.length) frd fBad fIR fAsk fBAsk fCode fRL fRR fX fWrites fThrown)), ((g 0), Sum.inl (cI, 8, Sum.inl vMany)), ((g 1), Sum.inl (cI, 512, Sum.inl vCounts)), ((g 2), Sum.inl (cI, 512, Sum.inl vNow)), ((g 3), Sum.inl (cI, 512, Sum.inl vThen)), ((g 4), Sum.inl (cI, 600, Sum.inl vIM)), ((g 5), Sum.inl (cI, 600, Sum.inl vIW)), ((g 6), Sum.inl (cI, 9000, Sum.inl vGoing)), ((g 7), Sum.inl (cI, 9000, Sum.inl vOut)), ((g 8), Sum.inl (cI, 6000, Sum.inl vIn)), ((g 9), Sum.inl (cI, 512, Sum.inl vSO)), ((g 10), Sum.inl (cI, 512, Sum.inl vNO)), ((g 11), Sum.inl (cI, 20000, Sum.inl vWr))] ++ mbsC cI ms) H → va_D A ([(rc, Sum.inr (6, [Value.ref co, Value.ref ma, Value.int (nI ms.length), Value.int fit, Value.int fen, Value.int frd, Value.int fbd, Value.int fir])), (ma, Sum.inl (cM, 8, Sum.inr (Sum.inr (Sum.inr (Sum.inr mf))))), (co, Sum.inr (1, [Value.int xcache, Value.int xpending, Value.long xlow, Value.long xrange, Value.long xcode, Value.long xreadLow, Value.long xreadRange, Value.ref ri, Value.ref ro, Value.ref rw, Value.int xasked])), (ri, Sum.inr (0, [Value.int (nI is.length), Value.ref ria])), (ria, Sum.inl (cI, rik, Sum.inl rif)), (ro, Sum.inr (0, [Value.int (nI os.length), Value.ref roa])), (roa, Sum.inl (cI, rok, Sum.inl rof)), (rw, Sum.inr (0, [Value.int rwn, Value.ref rwa])), (rwa, Sum.inl (cI, rwk, Sum.inl rwf)), (o, Sum.inr (9, mO g 0 fShift (nI ms.length) fit fen fLow fRange fCache fPend fGoes (nI os.length) (nI is.length) frd fBad fIR fAsk fBAsk fCode fRL fRR fX fWrites fThrown)), ((g 0), Sum.inl (cI, 8, Sum.inl vMany)), ((g 1), Sum.inl (cI, 512, Sum.inl vCounts)), ((g 2), Sum.inl (cI, 512, Sum.inl vNow)), ((g 3), Sum.inl (cI, 512, Sum.inl vThen)), ((g 4), Sum.inl (cI, 600, Sum.inl vIM)), ((g 5), Sum.inl (cI, 600, Sum.inl vIW)), ((g 6), Sum.inl (cI, 9000, Sum.inl vGoing)), ((g 7), Sum.inl (cI, 9000, Sum.inl vOut)), ((g 8), Sum.inl (cI, 6000, Sum.inl vIn)), ((g 9), Sum.inl (cI, 512, Sum.inl vSO)), ((g 10), Sum.inl (cI, 512, Sum.inl vNO)), ((g 11), Sum.inl (cI, 20000, Sum.inl vWr))] ++ mbsC cI ms) → (ms.length ≤ 8) → (mfOk mf ms) → (∀ x ∈ ms, mbOk x) → (rOk (nI is.length) rik) → (rOk (nI os.length) rok) → (rOk rwn rwk) → (MD ms.length N vMany vCounts) → (∀ (j : Nat) (x : MB), ms[j]? = some x → mT_Carries (N j) vCounts vNow j x) → (TB 0 ms.length N vThen) → (fen = 0 → MT0 fit xlow xrange xcache xpending rwn rwf fLow fRange fCache fPend fGoes vGoing) → (gIs rif is) → (gIs vIn is) → (is.length ≤ 6000) → (oct is) → (gIs rof os) → (gIs vOut os) → (os.length ≤ 6000) → (oct os) → (¬ frd = 0 → fBad = 0 → RD0 cn fAsk fCode fRR) → (dd + (rPh rik + rPh rok + rPh rwk) + 1600 * (8 - ms.length) ≤ 300000) → C9) → C9
def LV_Carries (dC : Nat → ClassId) (dI : Nat → Nat → Nat) (cI cM cO : ClassId) (A : Nat → Prop) (rc o cn dd : Nat) (H : Heap) : Prop := ∀ (C9 : Prop), (∀ (ms : List MB) (is : List Nat) (os : List Nat) (frd : Int32) (fbd : Int32) (fir : Int32) (mf : Nat → Option Nat) (ma : Nat) (co : Nat) (xcode : Int64) (xreadLow : Int64) (xreadRange : Int64) (ri : Nat) (ro : Nat) (rw : Nat) (xasked : Int32) (ria : Nat) (rik : Nat) (rif : Nat → Int32) (roa : Nat) (rok : Nat) (rof : Nat → Int32) (rwa : Nat) (rwk : Nat) (rwf : Nat → Int32) (g : Nat → Nat) (fShift : Int32) (fBad : Int32) (fIR : Int32) (fAsk : Int32) (fBAsk : Int32) (fCode : Int64) (fRL : Int64) (fRR : Int64) (fX : Int64) (fWrites : Int32) (fThrown : Int32) (vMany : Nat → Int32) (vCounts : Nat → Int32) (vNow : Nat → Int32) (vThen : Nat → Int32) (vIM : Nat → Int32) (vIW : Nat → Int32) (vGoing : Nat → Int32) (vOut : Nat → Int32) (vIn : Nat → Int32) (vSO : Nat → Int32) (vNO : Nat → Int32) (vWr : Nat → Int32) (N : Nat → Nat) (ki : Nat) (Rg : Nat) (Lw : Nat) (ca : Option Nat) (Pn : Nat) (bs : List Nat), va_P (dC, dI) vwCl ([(rc, Sum.inr (6, [Value.ref co, Value.ref ma, Value.int (nI ms.length), Value.int (nI ki), Value.int 0, Value.int frd, Value.int fbd, Value.int fir])), (ma, Sum.inl (cM, 8, Sum.inr (Sum.inr (Sum.inr (Sum.inr mf))))), (co, Sum.inr (1, [Value.int (caI ca), Value.int (nI Pn), Value.long (lN Lw), Value.long (lN Rg), Value.long xcode, Value.long xreadLow, Value.long xreadRange, Value.ref ri, Value.ref ro, Value.ref rw, Value.int xasked])), (ri, Sum.inr (0, [Value.int (nI is.length), Value.ref ria])), (ria, Sum.inl (cI, rik, Sum.inl rif)), (ro, Sum.inr (0, [Value.int (nI os.length), Value.ref roa])), (roa, Sum.inl (cI, rok, Sum.inl rof)), (rw, Sum.inr (0, [Value.int (nI bs.length), Value.ref rwa])), (rwa, Sum.inl (cI, rwk, Sum.inl rwf)), (o, Sum.inr (9, mO g 0 fShift (nI ms.length) (nI ki) 0 (lN Lw) (lN Rg) (caI ca) (nI Pn) (nI bs.length) (nI os.length) (nI is.length) frd fBad fIR fAsk fBAsk fCode fRL fRR fX fWrites fThrown)), ((g 0), Sum.inl (cI, 8, Sum.inl vMany)), ((g 1), Sum.inl (cI, 512, Sum.inl vCounts)), ((g 2), Sum.inl (cI, 512, Sum.inl vNow)), ((g 3), Sum.inl (cI, 512, Sum.inl vThen)), ((g 4), Sum.inl (cI, 600, Sum.inl vIM)), ((g 5), Sum.inl (cI, 600, Sum.inl vIW)), ((g 6), Sum.inl (cI, 9000, Sum.inl vGoing)), ((g 7), Sum.inl (cI, 9000, Sum.inl vOut)), ((g 8), Sum.inl (cI, 6000, Sum.inl vIn)), ((g 9), Sum.inl (cI, 512, Sum.inl vSO)), ((g 10), Sum.inl (cI, 512, Sum.inl vNO)), ((g 11), Sum.inl (cI, 20000, Sum.inl vWr))] ++ mbsC cI ms) H → va_D A ([(rc, Sum.inr (6, [Value.ref co, Value.ref ma, Value.int (nI ms.length), Value.int (nI ki), Value.int 0, Value.int frd, Value.int fbd, Value.int fir])), (ma, Sum.inl (cM, 8, Sum.inr (Sum.inr (Sum.inr (Sum.inr mf))))), (co, Sum.inr (1, [Value.int (caI ca), Value.int (nI Pn), Value.long (lN Lw), Value.long (lN Rg), Value.long xcode, Value.long xreadLow, Value.long xreadRange, Value.ref ri, Value.ref ro, Value.ref rw, Value.int xasked])), (ri, Sum.inr (0, [Value.int (nI is.length), Value.ref ria])), (ria, Sum.inl (cI, rik, Sum.inl rif)), (ro, Sum.inr (0, [Value.int (nI os.length), Value.ref roa])), (roa, Sum.inl (cI, rok, Sum.inl rof)), (rw, Sum.inr (0, [Value.int (nI bs.length), Value.ref rwa])), (rwa, Sum.inl (cI, rwk, Sum.inl rwf)), (o, Sum.inr (9, mO g 0 fShift (nI ms.length) (nI ki) 0 (lN Lw) (lN Rg) (caI ca) (nI Pn) (nI bs.length) (nI os.length) (nI is.length) frd fBad fIR fAsk fBAsk fCode fRL fRR fX fWrites fThrown)), ((g 0), Sum.inl (cI, 8, Sum.inl vMany)), ((g 1), Sum.inl (cI, 512, Sum.inl vCounts)), ((g 2), Sum.inl (cI, 512, Sum.inl vNow)), ((g 3), Sum.inl (cI, 512, Sum.inl vThen)), ((g 4), Sum.inl (cI, 600, Sum.inl vIM)), ((g 5), Sum.inl (cI, 600, Sum.inl vIW)), ((g 6), Sum.inl (cI, 9000, Sum.inl vGoing)), ((g 7), Sum.inl (cI, 9000, Sum.inl vOut)), ((g 8), Sum.inl (cI, 6000, Sum.inl vIn)), ((g 9), Sum.inl (cI, 512, Sum.inl vSO)), ((g 10), Sum.inl (cI, 512, Sum.inl vNO)), ((g 11), Sum.inl (cI, 20000, Sum.inl vWr))] ++ mbsC cI ms) → (ms.length ≤ 8) → (mfOk mf ms) → (∀ x ∈ ms, mbOk x) → (rOk (nI is.length) rik) → (rOk (nI os.length) rok) → (rOk (nI bs.length) rwk) → (MD ms.length N vMany vCounts) → (∀ (j : Nat) (x : MB), ms[j]? = some x → mT_Carries (N j) vCounts vNow j x) → (TB 0 ms.length N vThen) → (gIs rif is) → (gIs vIn is) → (is.length ≤ 6000) → (oct is) → (gIs rof os) → (gIs vOut os) → (os.length ≤ 6000) → (oct os) → (¬ frd = 0 → fBad = 0 → RD0 cn fAsk fCode fRR) → (dd + (rPh rik + rPh rok + rPh rwk) + 1600 * (8 - ms.length) ≤ 300000) → (ki ≤ 600) → (gIs rwf bs) → (gIs vGoing bs) → (eInv (Rg, Lw, ca, Pn, bs)) → (oct bs) → (bs.length + Pn ≤ 12 * ki) → (lgI (72 * ki) (Rg, Lw, ca, Pn, bs)) → C9) → C9
def EN_Carries (dC : Nat → ClassId) (dI : Nat → Nat → Nat) (cI cM cO : ClassId) (A : Nat → Prop) (rc o cn dd : Nat) (H : Heap) : Prop := ∀ (C9 : Prop), (∀ (ms : List MB) (is : List Nat) (os : List Nat) (fit : Int32) (fen : Int32) (frd : Int32) (fbd : Int32) (fir : Int32) (mf : Nat → Option Nat) (ma : Nat) (co : Nat) (xcache : Int32) (xpending : Int32) (xlow : Int64) (xrange : Int64) (xcode : Int64) (xreadLow : Int64) (xreadRange : Int64) (ri : Nat) (ro : Nat) (rw : Nat) (xasked : Int32) (ria : Nat) (rik : Nat) (rif : Nat → Int32) (roa : Nat) (rok : Nat) (rof : Nat → Int32) (rwn : Int32) (rwa : Nat) (rwk : Nat) (rwf : Nat → Int32) (g : Nat → Nat) (fShift : Int32) (fLow : Int64) (fRange : Int64) (fCache : Int32) (fPend : Int32) (fGoes : Int32) (fBad : Int32) (fIR : Int32) (fAsk : Int32) (fBAsk : Int32) (fCode : Int64) (fRL : Int64) (fRR : Int64) (fX : Int64) (fWrites : Int32) (fThrown : Int32) (vMany : Nat → Int32) (vCounts : Nat → Int32) (vNow : Nat → Int32) (vThen : Nat → Int32) (vIM : Nat → Int32) (vIW : Nat → Int32) (vGoing : Nat → Int32) (vOut : Nat → Int32) (vIn : Nat → Int32) (vSO : Nat → Int32) (vNO : Nat → Int32) (vWr : Nat → Int32) (N : Nat → Nat), va_P (dC, dI) vwCl ([(rc, Sum.inr (6, [Value.ref co, Value.ref ma, Value.int (nI ms.length), Value.int fit, Value.int fen, Value.int frd, Value.int fbd, Value.int fir])), (ma, Sum.inl (cM, 8, Sum.inr (Sum.inr (Sum.inr (Sum.inr mf))))), (co, Sum.inr (1, [Value.int xcache, Value.int xpending, Value.long xlow, Value.long xrange, Value.long xcode, Value.long xreadLow, Value.long xreadRange, Value.ref ri, Value.ref ro, Value.ref rw, Value.int xasked])), (ri, Sum.inr (0, [Value.int (nI is.length), Value.ref ria])), (ria, Sum.inl (cI, rik, Sum.inl rif)), (ro, Sum.inr (0, [Value.int (nI os.length), Value.ref roa])), (roa, Sum.inl (cI, rok, Sum.inl rof)), (rw, Sum.inr (0, [Value.int rwn, Value.ref rwa])), (rwa, Sum.inl (cI, rwk, Sum.inl rwf)), (o, Sum.inr (9, mO g 0 fShift (nI ms.length) fit fen fLow fRange fCache fPend fGoes (nI os.length) (nI is.length) frd fBad fIR fAsk fBAsk fCode fRL fRR fX fWrites fThrown)), ((g 0), Sum.inl (cI, 8, Sum.inl vMany)), ((g 1), Sum.inl (cI, 512, Sum.inl vCounts)), ((g 2), Sum.inl (cI, 512, Sum.inl vNow)), ((g 3), Sum.inl (cI, 512, Sum.inl vThen)), ((g 4), Sum.inl (cI, 600, Sum.inl vIM)), ((g 5), Sum.inl (cI, 600, Sum.inl vIW)), ((g 6), Sum.inl (cI, 9000, Sum.inl vGoing)), ((g 7), Sum.inl (cI, 9000, Sum.inl vOut)), ((g 8), Sum.inl (cI, 6000, Sum.inl vIn)), ((g 9), Sum.inl (cI, 512, Sum.inl vSO)), ((g 10), Sum.inl (cI, 512, Sum.inl vNO)), ((g 11), Sum.inl (cI, 20000, Sum.inl vWr))] ++ mbsC cI ms) H → va_D A ([(rc, Sum.inr (6, [Value.ref co, Value.ref ma, Value.int (nI ms.length), Value.int fit, Value.int fen, Value.int frd, Value.int fbd, Value.int fir])), (ma, Sum.inl (cM, 8, Sum.inr (Sum.inr (Sum.inr (Sum.inr mf))))), (co, Sum.inr (1, [Value.int xcache, Value.int xpending, Value.long xlow, Value.long xrange, Value.long xcode, Value.long xreadLow, Value.long xreadRange, Value.ref ri, Value.ref ro, Value.ref rw, Value.int xasked])), (ri, Sum.inr (0, [Value.int (nI is.length), Value.ref ria])), (ria, Sum.inl (cI, rik, Sum.inl rif)), (ro, Sum.inr (0, [Value.int (nI os.length), Value.ref roa])), (roa, Sum.inl (cI, rok, Sum.inl rof)), (rw, Sum.inr (0, [Value.int rwn, Value.ref rwa])), (rwa, Sum.inl (cI, rwk, Sum.inl rwf)), (o, Sum.inr (9, mO g 0 fShift (nI ms.length) fit fen fLow fRange fCache fPend fGoes (nI os.length) (nI is.length) frd fBad fIR fAsk fBAsk fCode fRL fRR fX fWrites fThrown)), ((g 0), Sum.inl (cI, 8, Sum.inl vMany)), ((g 1), Sum.inl (cI, 512, Sum.inl vCounts)), ((g 2), Sum.inl (cI, 512, Sum.inl vNow)), ((g 3), Sum.inl (cI, 512, Sum.inl vThen)), ((g 4), Sum.inl (cI, 600, Sum.inl vIM)), ((g 5), Sum.inl (cI, 600, Sum.inl vIW)), ((g 6), Sum.inl (cI, 9000, Sum.inl vGoing)), ((g 7), Sum.inl (cI, 9000, Sum.inl vOut)), ((g 8), Sum.inl (cI, 6000, Sum.inl vIn)), ((g 9), Sum.inl (cI, 512, Sum.inl vSO)), ((g 10), Sum.inl (cI, 512, Sum.inl vNO)), ((g 11), Sum.inl (cI, 20000, Sum.inl vWr))] ++ mbsC cI ms) → (ms.length ≤ 8) → (mfOk mf ms) → (∀ x ∈ ms, mbOk x) → (rOk (nI is.length) rik) → (rOk (nI os.length) rok) → (rOk rwn rwk) → (MD ms.length N vMany vCounts) → (∀ (j : Nat) (x : MB), ms[j]? = some x → mT_Carries (N j) vCounts vNow j x) → (TB 0 ms.length N vThen) → (gIs rif is) → (gIs vIn is) → (is.length ≤ 6000) → (oct is) → (gIs rof os) → (gIs vOut os) → (os.length ≤ 6000) → (oct os) → (¬ frd = 0 → fBad = 0 → RD0 cn fAsk fCode fRR) → (dd + (rPh rik + rPh rok + rPh rwk) + 1600 * (8 - ms.length) ≤ 300000) → (¬ fen = 0) → C9) → C9
set_option maxHeartbeats 4000000 in
theorem LI_split_Carries {dC : Nat → ClassId} {dI : Nat → Nat → Nat} {cI cM cO : ClassId} {A : Nat → Prop} {rc o cn dd : Nat} {H : Heap} (h : LI_Carries dC dI cI cM cO A rc o cn dd H) {C9 : Prop} (k1 : LV_Carries dC dI cI cM cO A rc o cn dd H → C9) (k2 : EN_Carries dC dI cI cM cO A rc o cn dd H → C9) : C9 := by
  refine h _ ?_
  intro ms is os fit fen frd fbd fir mf ma co xcache xpending xlow xrange xcode xreadLow xreadRange ri ro rw xasked ria rik rif roa rok rof rwn rwa rwk rwf g fShift fLow fRange fCache fPend fGoes fBad fIR fAsk fBAsk fCode fRL fRR fX fWrites fThrown vMany vCounts vNow vThen vIM vIW vGoing vOut vIn vSO vNO vWr N hP hD hk8 hmf hmo hri hro hrw hMD hmt hU hMS hIr hIm hI6 hIo hOr hOm hO6 hOo hRD hdd
  by_cases hfe : fen = 0
  · obtain ⟨ki, Rg, Lw, ca, Pn, bs, hki, rfl, rfl, rfl, rfl, rfl, rfl, rfl, rfl, rfl, rfl, rfl, hGc, hGm, hE, hoB, hlB, hlg⟩ := hMS hfe
    subst hfe
    exact k1 (fun C8 k8 => k8 ms is os frd fbd fir mf ma co xcode xreadLow xreadRange ri ro rw xasked ria rik rif roa rok rof rwa rwk rwf g fShift fBad fIR fAsk fBAsk fCode fRL fRR fX fWrites fThrown vMany vCounts vNow vThen vIM vIW vGoing vOut vIn vSO vNO vWr N ki Rg Lw ca Pn bs hP hD hk8 hmf hmo hri hro hrw hMD hmt hU hIr hIm hI6 hIo hOr hOm hO6 hOo hRD hdd hki hGc hGm hE hoB hlB hlg)
  · exact k2 (fun C8 k8 => k8 ms is os fit fen frd fbd fir mf ma co xcache xpending xlow xrange xcode xreadLow xreadRange ri ro rw xasked ria rik rif roa rok rof rwn rwa rwk rwf g fShift fLow fRange fCache fPend fGoes fBad fIR fAsk fBAsk fCode fRL fRR fX fWrites fThrown vMany vCounts vNow vThen vIM vIW vGoing vOut vIn vSO vNO vWr N hP hD hk8 hmf hmo hri hro hrw hMD hmt hU hIr hIm hI6 hIo hOr hOm hO6 hOo hRD hdd hfe)
def LI_NoCarries (dC : Nat → ClassId) (dI : Nat → Nat → Nat) (cI cM cO : ClassId) (A : Nat → Prop) (rc o cn dd : Nat) (H : Heap) : Prop := ∀ (C9 : Prop), (∀ (ms : List MB) (is : List Nat) (os : List Nat) (fit : Int32) (fen : Int32) (frd : Int32) (fbd : Int32) (fir : Int32) (mf : Nat → Option Nat) (ma : Nat) (co : Nat) (xlow : Int64) (xrange : Int64) (xcode : Int64) (xreadLow : Int64) (xreadRange : Int64) (ri : Nat) (ro : Nat) (rw : Nat) (xasked : Int32) (ria : Nat) (rik : Nat) (rif : Nat → Int32) (roa : Nat) (rok : Nat) (rof : Nat → Int32) (rwn : Int32) (rwa : Nat) (rwk : Nat) (rwf : Nat → Int32) (g : Nat → Nat) (fShift : Int32) (fLow : Int64) (fRange : Int64) (fCache : Int32) (fPend : Int32) (fGoes : Int32) (fBad : Int32) (fIR : Int32) (fAsk : Int32) (fBAsk : Int32) (fCode : Int64) (fRL : Int64) (fRR : Int64) (fX : Int64) (fWrites : Int32) (fThrown : Int32) (vMany : Nat → Int32) (vCounts : Nat → Int32) (vNow : Nat → Int32) (vThen : Nat → Int32) (vIM : Nat → Int32) (vIW : Nat → Int32) (vGoing : Nat → Int32) (vOut : Nat → Int32) (vIn : Nat → Int32) (vSO : Nat → Int32) (vNO : Nat → Int32) (vWr : Nat → Int32) (N : Nat → Nat), va_P (dC, dI) vwCl ([(rc, Sum.inr (6, [Value.ref co, Value.ref ma, Value.int (nI ms.length), Value.int fit, Value.int fen, Value.int frd, Value.int fbd, Value.int fir])), (ma, Sum.inl (cM, 8, Sum.inr (Sum.inr (Sum.inr (Sum.inr mf))))), (co, Sum.inr (2, [Value.long xlow, Value.long xrange, Value.long xcode, Value.long xreadLow, Value.long xreadRange, Value.ref ri, Value.ref ro, Value.ref rw, Value.int xasked])), (ri, Sum.inr (0, [Value.int (nI is.length), Value.ref ria])), (ria, Sum.inl (cI, rik, Sum.inl rif)), (ro, Sum.inr (0, [Value.int (nI os.length), Value.ref roa])), (roa, Sum.inl (cI, rok, Sum.inl rof)), (rw, Sum.inr (0, [Value.int rwn, Value.ref rwa])), (rwa, Sum.inl (cI, rwk, Sum.inl rwf)), (o, Sum.inr (9, mO g 1 fShift (nI ms.length) fit fen fLow fRange fCache fPend fGoes (nI os.length) (nI is.length) frd fBad fIR fAsk fBAsk fCode fRL fRR fX fWrites fThrown)), ((g 0), Sum.inl (cI, 8, Sum.inl vMany)), ((g 1), Sum.inl (cI, 512, Sum.inl vCounts)), ((g 2), Sum.inl (cI, 512, Sum.inl vNow)), ((g 3), Sum.inl (cI, 512, Sum.inl vThen)), ((g 4), Sum.inl (cI, 600, Sum.inl vIM)), ((g 5), Sum.inl (cI, 600, Sum.inl vIW)), ((g 6), Sum.inl (cI, 9000, Sum.inl vGoing)), ((g 7), Sum.inl (cI, 9000, Sum.inl vOut)), ((g 8), Sum.inl (cI, 6000, Sum.inl vIn)), ((g 9), Sum.inl (cI, 512, Sum.inl vSO)), ((g 10), Sum.inl (cI, 512, Sum.inl vNO)), ((g 11), Sum.inl (cI, 20000, Sum.inl vWr))] ++ mbsC cI ms) H → va_D A ([(rc, Sum.inr (6, [Value.ref co, Value.ref ma, Value.int (nI ms.length), Value.int fit, Value.int fen, Value.int frd, Value.int fbd, Value.int fir])), (ma, Sum.inl (cM, 8, Sum.inr (Sum.inr (Sum.inr (Sum.inr mf))))), (co, Sum.inr (2, [Value.long xlow, Value.long xrange, Value.long xcode, Value.long xreadLow, Value.long xreadRange, Value.ref ri, Value.ref ro, Value.ref rw, Value.int xasked])), (ri, Sum.inr (0, [Value.int (nI is.length), Value.ref ria])), (ria, Sum.inl (cI, rik, Sum.inl rif)), (ro, Sum.inr (0, [Value.int (nI os.length), Value.ref roa])), (roa, Sum.inl (cI, rok, Sum.inl rof)), (rw, Sum.inr (0, [Value.int rwn, Value.ref rwa])), (rwa, Sum.inl (cI, rwk, Sum.inl rwf)), (o, Sum.inr (9, mO g 1 fShift (nI ms.length) fit fen fLow fRange fCache fPend fGoes (nI os.length) (nI is.length) frd fBad fIR fAsk fBAsk fCode fRL fRR fX fWrites fThrown)), ((g 0), Sum.inl (cI, 8, Sum.inl vMany)), ((g 1), Sum.inl (cI, 512, Sum.inl vCounts)), ((g 2), Sum.inl (cI, 512, Sum.inl vNow)), ((g 3), Sum.inl (cI, 512, Sum.inl vThen)), ((g 4), Sum.inl (cI, 600, Sum.inl vIM)), ((g 5), Sum.inl (cI, 600, Sum.inl vIW)), ((g 6), Sum.inl (cI, 9000, Sum.inl vGoing)), ((g 7), Sum.inl (cI, 9000, Sum.inl vOut)), ((g 8), Sum.inl (cI, 6000, Sum.inl vIn)), ((g 9), Sum.inl (cI, 512, Sum.inl vSO)), ((g 10), Sum.inl (cI, 512, Sum.inl vNO)), ((g 11), Sum.inl (cI, 20000, Sum.inl vWr))] ++ mbsC cI ms) → (ms.length ≤ 8) → (mfOk mf ms) → (∀ x ∈ ms, mbOk x) → (rOk (nI is.length) rik) → (rOk (nI os.length) rok) → (rOk rwn rwk) → (MD ms.length N vMany vCounts) → (∀ (j : Nat) (x : MB), ms[j]? = some x → mT_NoCarries (N j) vCounts vNow j x) → (TB 1 ms.length N vThen) → (fen = 0 → MT1 fit xlow xrange rwn rwf fLow fRange fGoes vGoing) → (gIs rif is) → (gIs vIn is) → (is.length ≤ 6000) → (oct is) → (gIs rof os) → (gIs vOut os) → (os.length ≤ 6000) → (oct os) → (¬ frd = 0 → fBad = 0 → RD1 cn fAsk fCode fRL fRR) → (dd + (rPh rik + rPh rok + rPh rwk) + 1600 * (8 - ms.length) ≤ 300000) → C9) → C9
def LV_NoCarries (dC : Nat → ClassId) (dI : Nat → Nat → Nat) (cI cM cO : ClassId) (A : Nat → Prop) (rc o cn dd : Nat) (H : Heap) : Prop := ∀ (C9 : Prop), (∀ (ms : List MB) (is : List Nat) (os : List Nat) (frd : Int32) (fbd : Int32) (fir : Int32) (mf : Nat → Option Nat) (ma : Nat) (co : Nat) (xcode : Int64) (xreadLow : Int64) (xreadRange : Int64) (ri : Nat) (ro : Nat) (rw : Nat) (xasked : Int32) (ria : Nat) (rik : Nat) (rif : Nat → Int32) (roa : Nat) (rok : Nat) (rof : Nat → Int32) (rwa : Nat) (rwk : Nat) (rwf : Nat → Int32) (g : Nat → Nat) (fShift : Int32) (fCache : Int32) (fPend : Int32) (fBad : Int32) (fIR : Int32) (fAsk : Int32) (fBAsk : Int32) (fCode : Int64) (fRL : Int64) (fRR : Int64) (fX : Int64) (fWrites : Int32) (fThrown : Int32) (vMany : Nat → Int32) (vCounts : Nat → Int32) (vNow : Nat → Int32) (vThen : Nat → Int32) (vIM : Nat → Int32) (vIW : Nat → Int32) (vGoing : Nat → Int32) (vOut : Nat → Int32) (vIn : Nat → Int32) (vSO : Nat → Int32) (vNO : Nat → Int32) (vWr : Nat → Int32) (N : Nat → Nat) (ki : Nat) (Rg : Nat) (Lw : Nat) (bs : List Nat), va_P (dC, dI) vwCl ([(rc, Sum.inr (6, [Value.ref co, Value.ref ma, Value.int (nI ms.length), Value.int (nI ki), Value.int 0, Value.int frd, Value.int fbd, Value.int fir])), (ma, Sum.inl (cM, 8, Sum.inr (Sum.inr (Sum.inr (Sum.inr mf))))), (co, Sum.inr (2, [Value.long (lN Lw), Value.long (lN Rg), Value.long xcode, Value.long xreadLow, Value.long xreadRange, Value.ref ri, Value.ref ro, Value.ref rw, Value.int xasked])), (ri, Sum.inr (0, [Value.int (nI is.length), Value.ref ria])), (ria, Sum.inl (cI, rik, Sum.inl rif)), (ro, Sum.inr (0, [Value.int (nI os.length), Value.ref roa])), (roa, Sum.inl (cI, rok, Sum.inl rof)), (rw, Sum.inr (0, [Value.int (nI bs.length), Value.ref rwa])), (rwa, Sum.inl (cI, rwk, Sum.inl rwf)), (o, Sum.inr (9, mO g 1 fShift (nI ms.length) (nI ki) 0 (lN Lw) (lN Rg) fCache fPend (nI bs.length) (nI os.length) (nI is.length) frd fBad fIR fAsk fBAsk fCode fRL fRR fX fWrites fThrown)), ((g 0), Sum.inl (cI, 8, Sum.inl vMany)), ((g 1), Sum.inl (cI, 512, Sum.inl vCounts)), ((g 2), Sum.inl (cI, 512, Sum.inl vNow)), ((g 3), Sum.inl (cI, 512, Sum.inl vThen)), ((g 4), Sum.inl (cI, 600, Sum.inl vIM)), ((g 5), Sum.inl (cI, 600, Sum.inl vIW)), ((g 6), Sum.inl (cI, 9000, Sum.inl vGoing)), ((g 7), Sum.inl (cI, 9000, Sum.inl vOut)), ((g 8), Sum.inl (cI, 6000, Sum.inl vIn)), ((g 9), Sum.inl (cI, 512, Sum.inl vSO)), ((g 10), Sum.inl (cI, 512, Sum.inl vNO)), ((g 11), Sum.inl (cI, 20000, Sum.inl vWr))] ++ mbsC cI ms) H → va_D A ([(rc, Sum.inr (6, [Value.ref co, Value.ref ma, Value.int (nI ms.length), Value.int (nI ki), Value.int 0, Value.int frd, Value.int fbd, Value.int fir])), (ma, Sum.inl (cM, 8, Sum.inr (Sum.inr (Sum.inr (Sum.inr mf))))), (co, Sum.inr (2, [Value.long (lN Lw), Value.long (lN Rg), Value.long xcode, Value.long xreadLow, Value.long xreadRange, Value.ref ri, Value.ref ro, Value.ref rw, Value.int xasked])), (ri, Sum.inr (0, [Value.int (nI is.length), Value.ref ria])), (ria, Sum.inl (cI, rik, Sum.inl rif)), (ro, Sum.inr (0, [Value.int (nI os.length), Value.ref roa])), (roa, Sum.inl (cI, rok, Sum.inl rof)), (rw, Sum.inr (0, [Value.int (nI bs.length), Value.ref rwa])), (rwa, Sum.inl (cI, rwk, Sum.inl rwf)), (o, Sum.inr (9, mO g 1 fShift (nI ms.length) (nI ki) 0 (lN Lw) (lN Rg) fCache fPend (nI bs.length) (nI os.length) (nI is.length) frd fBad fIR fAsk fBAsk fCode fRL fRR fX fWrites fThrown)), ((g 0), Sum.inl (cI, 8, Sum.inl vMany)), ((g 1), Sum.inl (cI, 512, Sum.inl vCounts)), ((g 2), Sum.inl (cI, 512, Sum.inl vNow)), ((g 3), Sum.inl (cI, 512, Sum.inl vThen)), ((g 4), Sum.inl (cI, 600, Sum.inl vIM)), ((g 5), Sum.inl (cI, 600, Sum.inl vIW)), ((g 6), Sum.inl (cI, 9000, Sum.inl vGoing)), ((g 7), Sum.inl (cI, 9000, Sum.inl vOut)), ((g 8), Sum.inl (cI, 6000, Sum.inl vIn)), ((g 9), Sum.inl (cI, 512, Sum.inl vSO)), ((g 10), Sum.inl (cI, 512, Sum.inl vNO)), ((g 11), Sum.inl (cI, 20000, Sum.inl vWr))] ++ mbsC cI ms) → (ms.length ≤ 8) → (mfOk mf ms) → (∀ x ∈ ms, mbOk x) → (rOk (nI is.length) rik) → (rOk (nI os.length) rok) → (rOk (nI bs.length) rwk) → (MD ms.length N vMany vCounts) → (∀ (j : Nat) (x : MB), ms[j]? = some x → mT_NoCarries (N j) vCounts vNow j x) → (TB 1 ms.length N vThen) → (gIs rif is) → (gIs vIn is) → (is.length ≤ 6000) → (oct is) → (gIs rof os) → (gIs vOut os) → (os.length ≤ 6000) → (oct os) → (¬ frd = 0 → fBad = 0 → RD1 cn fAsk fCode fRL fRR) → (dd + (rPh rik + rPh rok + rPh rwk) + 1600 * (8 - ms.length) ≤ 300000) → (ki ≤ 600) → (gIs rwf bs) → (gIs vGoing bs) → (pOk Rg Lw) → (65536 ≤ Rg) → (oct bs) → (bs.length ≤ 4 * ki) → C9) → C9
def EN_NoCarries (dC : Nat → ClassId) (dI : Nat → Nat → Nat) (cI cM cO : ClassId) (A : Nat → Prop) (rc o cn dd : Nat) (H : Heap) : Prop := ∀ (C9 : Prop), (∀ (ms : List MB) (is : List Nat) (os : List Nat) (fit : Int32) (fen : Int32) (frd : Int32) (fbd : Int32) (fir : Int32) (mf : Nat → Option Nat) (ma : Nat) (co : Nat) (xlow : Int64) (xrange : Int64) (xcode : Int64) (xreadLow : Int64) (xreadRange : Int64) (ri : Nat) (ro : Nat) (rw : Nat) (xasked : Int32) (ria : Nat) (rik : Nat) (rif : Nat → Int32) (roa : Nat) (rok : Nat) (rof : Nat → Int32) (rwn : Int32) (rwa : Nat) (rwk : Nat) (rwf : Nat → Int32) (g : Nat → Nat) (fShift : Int32) (fLow : Int64) (fRange : Int64) (fCache : Int32) (fPend : Int32) (fGoes : Int32) (fBad : Int32) (fIR : Int32) (fAsk : Int32) (fBAsk : Int32) (fCode : Int64) (fRL : Int64) (fRR : Int64) (fX : Int64) (fWrites : Int32) (fThrown : Int32) (vMany : Nat → Int32) (vCounts : Nat → Int32) (vNow : Nat → Int32) (vThen : Nat → Int32) (vIM : Nat → Int32) (vIW : Nat → Int32) (vGoing : Nat → Int32) (vOut : Nat → Int32) (vIn : Nat → Int32) (vSO : Nat → Int32) (vNO : Nat → Int32) (vWr : Nat → Int32) (N : Nat → Nat), va_P (dC, dI) vwCl ([(rc, Sum.inr (6, [Value.ref co, Value.ref ma, Value.int (nI ms.length), Value.int fit, Value.int fen, Value.int frd, Value.int fbd, Value.int fir])), (ma, Sum.inl (cM, 8, Sum.inr (Sum.inr (Sum.inr (Sum.inr mf))))), (co, Sum.inr (2, [Value.long xlow, Value.long xrange, Value.long xcode, Value.long xreadLow, Value.long xreadRange, Value.ref ri, Value.ref ro, Value.ref rw, Value.int xasked])), (ri, Sum.inr (0, [Value.int (nI is.length), Value.ref ria])), (ria, Sum.inl (cI, rik, Sum.inl rif)), (ro, Sum.inr (0, [Value.int (nI os.length), Value.ref roa])), (roa, Sum.inl (cI, rok, Sum.inl rof)), (rw, Sum.inr (0, [Value.int rwn, Value.ref rwa])), (rwa, Sum.inl (cI, rwk, Sum.inl rwf)), (o, Sum.inr (9, mO g 1 fShift (nI ms.length) fit fen fLow fRange fCache fPend fGoes (nI os.length) (nI is.length) frd fBad fIR fAsk fBAsk fCode fRL fRR fX fWrites fThrown)), ((g 0), Sum.inl (cI, 8, Sum.inl vMany)), ((g 1), Sum.inl (cI, 512, Sum.inl vCounts)), ((g 2), Sum.inl (cI, 512, Sum.inl vNow)), ((g 3), Sum.inl (cI, 512, Sum.inl vThen)), ((g 4), Sum.inl (cI, 600, Sum.inl vIM)), ((g 5), Sum.inl (cI, 600, Sum.inl vIW)), ((g 6), Sum.inl (cI, 9000, Sum.inl vGoing)), ((g 7), Sum.inl (cI, 9000, Sum.inl vOut)), ((g 8), Sum.inl (cI, 6000, Sum.inl vIn)), ((g 9), Sum.inl (cI, 512, Sum.inl vSO)), ((g 10), Sum.inl (cI, 512, Sum.inl vNO)), ((g 11), Sum.inl (cI, 20000, Sum.inl vWr))] ++ mbsC cI ms) H → va_D A ([(rc, Sum.inr (6, [Value.ref co, Value.ref ma, Value.int (nI ms.length), Value.int fit, Value.int fen, Value.int frd, Value.int fbd, Value.int fir])), (ma, Sum.inl (cM, 8, Sum.inr (Sum.inr (Sum.inr (Sum.inr mf))))), (co, Sum.inr (2, [Value.long xlow, Value.long xrange, Value.long xcode, Value.long xreadLow, Value.long xreadRange, Value.ref ri, Value.ref ro, Value.ref rw, Value.int xasked])), (ri, Sum.inr (0, [Value.int (nI is.length), Value.ref ria])), (ria, Sum.inl (cI, rik, Sum.inl rif)), (ro, Sum.inr (0, [Value.int (nI os.length), Value.ref roa])), (roa, Sum.inl (cI, rok, Sum.inl rof)), (rw, Sum.inr (0, [Value.int rwn, Value.ref rwa])), (rwa, Sum.inl (cI, rwk, Sum.inl rwf)), (o, Sum.inr (9, mO g 1 fShift (nI ms.length) fit fen fLow fRange fCache fPend fGoes (nI os.length) (nI is.length) frd fBad fIR fAsk fBAsk fCode fRL fRR fX fWrites fThrown)), ((g 0), Sum.inl (cI, 8, Sum.inl vMany)), ((g 1), Sum.inl (cI, 512, Sum.inl vCounts)), ((g 2), Sum.inl (cI, 512, Sum.inl vNow)), ((g 3), Sum.inl (cI, 512, Sum.inl vThen)), ((g 4), Sum.inl (cI, 600, Sum.inl vIM)), ((g 5), Sum.inl (cI, 600, Sum.inl vIW)), ((g 6), Sum.inl (cI, 9000, Sum.inl vGoing)), ((g 7), Sum.inl (cI, 9000, Sum.inl vOut)), ((g 8), Sum.inl (cI, 6000, Sum.inl vIn)), ((g 9), Sum.inl (cI, 512, Sum.inl vSO)), ((g 10), Sum.inl (cI, 512, Sum.inl vNO)), ((g 11), Sum.inl (cI, 20000, Sum.inl vWr))] ++ mbsC cI ms) → (ms.length ≤ 8) → (mfOk mf ms) → (∀ x ∈ ms, mbOk x) → (rOk (nI is.length) rik) → (rOk (nI os.length) rok) → (rOk rwn rwk) → (MD ms.length N vMany vCounts) → (∀ (j : Nat) (x : MB), ms[j]? = some x → mT_NoCarries (N j) vCounts vNow j x) → (TB 1 ms.length N vThen) → (gIs rif is) → (gIs vIn is) → (is.length ≤ 6000) → (oct is) → (gIs rof os) → (gIs vOut os) → (os.length ≤ 6000) → (oct os) → (¬ frd = 0 → fBad = 0 → RD1 cn fAsk fCode fRL fRR) → (dd + (rPh rik + rPh rok + rPh rwk) + 1600 * (8 - ms.length) ≤ 300000) → (¬ fen = 0) → C9) → C9
set_option maxHeartbeats 4000000 in
theorem LI_split_NoCarries {dC : Nat → ClassId} {dI : Nat → Nat → Nat} {cI cM cO : ClassId} {A : Nat → Prop} {rc o cn dd : Nat} {H : Heap} (h : LI_NoCarries dC dI cI cM cO A rc o cn dd H) {C9 : Prop} (k1 : LV_NoCarries dC dI cI cM cO A rc o cn dd H → C9) (k2 : EN_NoCarries dC dI cI cM cO A rc o cn dd H → C9) : C9 := by
  refine h _ ?_
  intro ms is os fit fen frd fbd fir mf ma co xlow xrange xcode xreadLow xreadRange ri ro rw xasked ria rik rif roa rok rof rwn rwa rwk rwf g fShift fLow fRange fCache fPend fGoes fBad fIR fAsk fBAsk fCode fRL fRR fX fWrites fThrown vMany vCounts vNow vThen vIM vIW vGoing vOut vIn vSO vNO vWr N hP hD hk8 hmf hmo hri hro hrw hMD hmt hU hMS hIr hIm hI6 hIo hOr hOm hO6 hOo hRD hdd
  by_cases hfe : fen = 0
  · obtain ⟨ki, Rg, Lw, bs, hki, rfl, rfl, rfl, rfl, rfl, rfl, rfl, hGc, hGm, hp, hR6, hoB, hlB⟩ := hMS hfe
    subst hfe
    exact k1 (fun C8 k8 => k8 ms is os frd fbd fir mf ma co xcode xreadLow xreadRange ri ro rw xasked ria rik rif roa rok rof rwa rwk rwf g fShift fCache fPend fBad fIR fAsk fBAsk fCode fRL fRR fX fWrites fThrown vMany vCounts vNow vThen vIM vIW vGoing vOut vIn vSO vNO vWr N ki Rg Lw bs hP hD hk8 hmf hmo hri hro hrw hMD hmt hU hIr hIm hI6 hIo hOr hOm hO6 hOo hRD hdd hki hGc hGm hp hR6 hoB hlB)
  · exact k2 (fun C8 k8 => k8 ms is os fit fen frd fbd fir mf ma co xlow xrange xcode xreadLow xreadRange ri ro rw xasked ria rik rif roa rok rof rwn rwa rwk rwf g fShift fLow fRange fCache fPend fGoes fBad fIR fAsk fBAsk fCode fRL fRR fX fWrites fThrown vMany vCounts vNow vThen vIM vIW vGoing vOut vIn vSO vNO vWr N hP hD hk8 hmf hmo hri hro hrw hMD hmt hU hIr hIm hI6 hIo hOr hOm hO6 hOo hRD hdd hfe)
def LI_Bits (dC : Nat → ClassId) (dI : Nat → Nat → Nat) (cI cM cO : ClassId) (A : Nat → Prop) (rc o cn dd : Nat) (H : Heap) : Prop := ∀ (C9 : Prop), (∀ (ms : List MB) (is : List Nat) (os : List Nat) (fit : Int32) (fen : Int32) (frd : Int32) (fbd : Int32) (fir : Int32) (mf : Nat → Option Nat) (ma : Nat) (co : Nat) (xkeptCode : Int64) (xkeptRange : Int64) (xkeptAsked : Int32) (xcache : Int32) (xpending : Int32) (xlow : Int64) (xrange : Int64) (xcode : Int64) (xreadLow : Int64) (xreadRange : Int64) (ri : Nat) (ro : Nat) (rw : Nat) (xasked : Int32) (ria : Nat) (rik : Nat) (rif : Nat → Int32) (roa : Nat) (rok : Nat) (rof : Nat → Int32) (rwn : Int32) (rwa : Nat) (rwk : Nat) (rwf : Nat → Int32) (g : Nat → Nat) (fLow : Int64) (fRange : Int64) (fCache : Int32) (fPend : Int32) (fGoes : Int32) (fBad : Int32) (fIR : Int32) (fAsk : Int32) (fBAsk : Int32) (fCode : Int64) (fRL : Int64) (fRR : Int64) (fX : Int64) (fWrites : Int32) (fThrown : Int32) (vMany : Nat → Int32) (vCounts : Nat → Int32) (vNow : Nat → Int32) (vThen : Nat → Int32) (vIM : Nat → Int32) (vIW : Nat → Int32) (vGoing : Nat → Int32) (vOut : Nat → Int32) (vIn : Nat → Int32) (vSO : Nat → Int32) (vNO : Nat → Int32) (vWr : Nat → Int32) (N : Nat → Nat) (sh : Nat), va_P (dC, dI) vwCl ([(rc, Sum.inr (6, [Value.ref co, Value.ref ma, Value.int (nI ms.length), Value.int fit, Value.int fen, Value.int frd, Value.int fbd, Value.int fir])), (ma, Sum.inl (cM, 8, Sum.inr (Sum.inr (Sum.inr (Sum.inr mf))))), (co, Sum.inr (3, [Value.int (nI sh), Value.long xkeptCode, Value.long xkeptRange, Value.int xkeptAsked, Value.int xcache, Value.int xpending, Value.long xlow, Value.long xrange, Value.long xcode, Value.long xreadLow, Value.long xreadRange, Value.ref ri, Value.ref ro, Value.ref rw, Value.int xasked])), (ri, Sum.inr (0, [Value.int (nI is.length), Value.ref ria])), (ria, Sum.inl (cI, rik, Sum.inl rif)), (ro, Sum.inr (0, [Value.int (nI os.length), Value.ref roa])), (roa, Sum.inl (cI, rok, Sum.inl rof)), (rw, Sum.inr (0, [Value.int rwn, Value.ref rwa])), (rwa, Sum.inl (cI, rwk, Sum.inl rwf)), (o, Sum.inr (9, mO g 2 (nI sh) (nI ms.length) fit fen fLow fRange fCache fPend fGoes (nI os.length) (nI is.length) frd fBad fIR fAsk fBAsk fCode fRL fRR fX fWrites fThrown)), ((g 0), Sum.inl (cI, 8, Sum.inl vMany)), ((g 1), Sum.inl (cI, 512, Sum.inl vCounts)), ((g 2), Sum.inl (cI, 512, Sum.inl vNow)), ((g 3), Sum.inl (cI, 512, Sum.inl vThen)), ((g 4), Sum.inl (cI, 600, Sum.inl vIM)), ((g 5), Sum.inl (cI, 600, Sum.inl vIW)), ((g 6), Sum.inl (cI, 9000, Sum.inl vGoing)), ((g 7), Sum.inl (cI, 9000, Sum.inl vOut)), ((g 8), Sum.inl (cI, 6000, Sum.inl vIn)), ((g 9), Sum.inl (cI, 512, Sum.inl vSO)), ((g 10), Sum.inl (cI, 512, Sum.inl vNO)), ((g 11), Sum.inl (cI, 20000, Sum.inl vWr))] ++ mbsC cI ms) H → va_D A ([(rc, Sum.inr (6, [Value.ref co, Value.ref ma, Value.int (nI ms.length), Value.int fit, Value.int fen, Value.int frd, Value.int fbd, Value.int fir])), (ma, Sum.inl (cM, 8, Sum.inr (Sum.inr (Sum.inr (Sum.inr mf))))), (co, Sum.inr (3, [Value.int (nI sh), Value.long xkeptCode, Value.long xkeptRange, Value.int xkeptAsked, Value.int xcache, Value.int xpending, Value.long xlow, Value.long xrange, Value.long xcode, Value.long xreadLow, Value.long xreadRange, Value.ref ri, Value.ref ro, Value.ref rw, Value.int xasked])), (ri, Sum.inr (0, [Value.int (nI is.length), Value.ref ria])), (ria, Sum.inl (cI, rik, Sum.inl rif)), (ro, Sum.inr (0, [Value.int (nI os.length), Value.ref roa])), (roa, Sum.inl (cI, rok, Sum.inl rof)), (rw, Sum.inr (0, [Value.int rwn, Value.ref rwa])), (rwa, Sum.inl (cI, rwk, Sum.inl rwf)), (o, Sum.inr (9, mO g 2 (nI sh) (nI ms.length) fit fen fLow fRange fCache fPend fGoes (nI os.length) (nI is.length) frd fBad fIR fAsk fBAsk fCode fRL fRR fX fWrites fThrown)), ((g 0), Sum.inl (cI, 8, Sum.inl vMany)), ((g 1), Sum.inl (cI, 512, Sum.inl vCounts)), ((g 2), Sum.inl (cI, 512, Sum.inl vNow)), ((g 3), Sum.inl (cI, 512, Sum.inl vThen)), ((g 4), Sum.inl (cI, 600, Sum.inl vIM)), ((g 5), Sum.inl (cI, 600, Sum.inl vIW)), ((g 6), Sum.inl (cI, 9000, Sum.inl vGoing)), ((g 7), Sum.inl (cI, 9000, Sum.inl vOut)), ((g 8), Sum.inl (cI, 6000, Sum.inl vIn)), ((g 9), Sum.inl (cI, 512, Sum.inl vSO)), ((g 10), Sum.inl (cI, 512, Sum.inl vNO)), ((g 11), Sum.inl (cI, 20000, Sum.inl vWr))] ++ mbsC cI ms) → (ms.length ≤ 8) → (mfOk mf ms) → (∀ x ∈ ms, mbOk x) → (rOk (nI is.length) rik) → (rOk (nI os.length) rok) → (rOk rwn rwk) → (1 ≤ sh) → (sh ≤ 10) → (MD ms.length N vMany vCounts) → (∀ (j : Nat) (x : MB), ms[j]? = some x → mT_Bits (N j) vCounts vNow j x) → (TB 2 ms.length N vThen) → (fen = 0 → MT0 fit xlow xrange xcache xpending rwn rwf fLow fRange fCache fPend fGoes vGoing) → (gIs rif is) → (gIs vIn is) → (is.length ≤ 6000) → (oct is) → (gIs rof os) → (gIs vOut os) → (os.length ≤ 6000) → (oct os) → (¬ frd = 0 → fBad = 0 → RD2 cn fAsk fCode fRR) → (dd + (rPh rik + rPh rok + rPh rwk) + 1600 * (8 - ms.length) ≤ 300000) → C9) → C9
def LV_Bits (dC : Nat → ClassId) (dI : Nat → Nat → Nat) (cI cM cO : ClassId) (A : Nat → Prop) (rc o cn dd : Nat) (H : Heap) : Prop := ∀ (C9 : Prop), (∀ (ms : List MB) (is : List Nat) (os : List Nat) (frd : Int32) (fbd : Int32) (fir : Int32) (mf : Nat → Option Nat) (ma : Nat) (co : Nat) (xkeptCode : Int64) (xkeptRange : Int64) (xkeptAsked : Int32) (xcode : Int64) (xreadLow : Int64) (xreadRange : Int64) (ri : Nat) (ro : Nat) (rw : Nat) (xasked : Int32) (ria : Nat) (rik : Nat) (rif : Nat → Int32) (roa : Nat) (rok : Nat) (rof : Nat → Int32) (rwa : Nat) (rwk : Nat) (rwf : Nat → Int32) (g : Nat → Nat) (fBad : Int32) (fIR : Int32) (fAsk : Int32) (fBAsk : Int32) (fCode : Int64) (fRL : Int64) (fRR : Int64) (fX : Int64) (fWrites : Int32) (fThrown : Int32) (vMany : Nat → Int32) (vCounts : Nat → Int32) (vNow : Nat → Int32) (vThen : Nat → Int32) (vIM : Nat → Int32) (vIW : Nat → Int32) (vGoing : Nat → Int32) (vOut : Nat → Int32) (vIn : Nat → Int32) (vSO : Nat → Int32) (vNO : Nat → Int32) (vWr : Nat → Int32) (N : Nat → Nat) (sh : Nat) (ki : Nat) (Rg : Nat) (Lw : Nat) (ca : Option Nat) (Pn : Nat) (bs : List Nat), va_P (dC, dI) vwCl ([(rc, Sum.inr (6, [Value.ref co, Value.ref ma, Value.int (nI ms.length), Value.int (nI ki), Value.int 0, Value.int frd, Value.int fbd, Value.int fir])), (ma, Sum.inl (cM, 8, Sum.inr (Sum.inr (Sum.inr (Sum.inr mf))))), (co, Sum.inr (3, [Value.int (nI sh), Value.long xkeptCode, Value.long xkeptRange, Value.int xkeptAsked, Value.int (caI ca), Value.int (nI Pn), Value.long (lN Lw), Value.long (lN Rg), Value.long xcode, Value.long xreadLow, Value.long xreadRange, Value.ref ri, Value.ref ro, Value.ref rw, Value.int xasked])), (ri, Sum.inr (0, [Value.int (nI is.length), Value.ref ria])), (ria, Sum.inl (cI, rik, Sum.inl rif)), (ro, Sum.inr (0, [Value.int (nI os.length), Value.ref roa])), (roa, Sum.inl (cI, rok, Sum.inl rof)), (rw, Sum.inr (0, [Value.int (nI bs.length), Value.ref rwa])), (rwa, Sum.inl (cI, rwk, Sum.inl rwf)), (o, Sum.inr (9, mO g 2 (nI sh) (nI ms.length) (nI ki) 0 (lN Lw) (lN Rg) (caI ca) (nI Pn) (nI bs.length) (nI os.length) (nI is.length) frd fBad fIR fAsk fBAsk fCode fRL fRR fX fWrites fThrown)), ((g 0), Sum.inl (cI, 8, Sum.inl vMany)), ((g 1), Sum.inl (cI, 512, Sum.inl vCounts)), ((g 2), Sum.inl (cI, 512, Sum.inl vNow)), ((g 3), Sum.inl (cI, 512, Sum.inl vThen)), ((g 4), Sum.inl (cI, 600, Sum.inl vIM)), ((g 5), Sum.inl (cI, 600, Sum.inl vIW)), ((g 6), Sum.inl (cI, 9000, Sum.inl vGoing)), ((g 7), Sum.inl (cI, 9000, Sum.inl vOut)), ((g 8), Sum.inl (cI, 6000, Sum.inl vIn)), ((g 9), Sum.inl (cI, 512, Sum.inl vSO)), ((g 10), Sum.inl (cI, 512, Sum.inl vNO)), ((g 11), Sum.inl (cI, 20000, Sum.inl vWr))] ++ mbsC cI ms) H → va_D A ([(rc, Sum.inr (6, [Value.ref co, Value.ref ma, Value.int (nI ms.length), Value.int (nI ki), Value.int 0, Value.int frd, Value.int fbd, Value.int fir])), (ma, Sum.inl (cM, 8, Sum.inr (Sum.inr (Sum.inr (Sum.inr mf))))), (co, Sum.inr (3, [Value.int (nI sh), Value.long xkeptCode, Value.long xkeptRange, Value.int xkeptAsked, Value.int (caI ca), Value.int (nI Pn), Value.long (lN Lw), Value.long (lN Rg), Value.long xcode, Value.long xreadLow, Value.long xreadRange, Value.ref ri, Value.ref ro, Value.ref rw, Value.int xasked])), (ri, Sum.inr (0, [Value.int (nI is.length), Value.ref ria])), (ria, Sum.inl (cI, rik, Sum.inl rif)), (ro, Sum.inr (0, [Value.int (nI os.length), Value.ref roa])), (roa, Sum.inl (cI, rok, Sum.inl rof)), (rw, Sum.inr (0, [Value.int (nI bs.length), Value.ref rwa])), (rwa, Sum.inl (cI, rwk, Sum.inl rwf)), (o, Sum.inr (9, mO g 2 (nI sh) (nI ms.length) (nI ki) 0 (lN Lw) (lN Rg) (caI ca) (nI Pn) (nI bs.length) (nI os.length) (nI is.length) frd fBad fIR fAsk fBAsk fCode fRL fRR fX fWrites fThrown)), ((g 0), Sum.inl (cI, 8, Sum.inl vMany)), ((g 1), Sum.inl (cI, 512, Sum.inl vCounts)), ((g 2), Sum.inl (cI, 512, Sum.inl vNow)), ((g 3), Sum.inl (cI, 512, Sum.inl vThen)), ((g 4), Sum.inl (cI, 600, Sum.inl vIM)), ((g 5), Sum.inl (cI, 600, Sum.inl vIW)), ((g 6), Sum.inl (cI, 9000, Sum.inl vGoing)), ((g 7), Sum.inl (cI, 9000, Sum.inl vOut)), ((g 8), Sum.inl (cI, 6000, Sum.inl vIn)), ((g 9), Sum.inl (cI, 512, Sum.inl vSO)), ((g 10), Sum.inl (cI, 512, Sum.inl vNO)), ((g 11), Sum.inl (cI, 20000, Sum.inl vWr))] ++ mbsC cI ms) → (ms.length ≤ 8) → (mfOk mf ms) → (∀ x ∈ ms, mbOk x) → (rOk (nI is.length) rik) → (rOk (nI os.length) rok) → (rOk (nI bs.length) rwk) → (1 ≤ sh) → (sh ≤ 10) → (MD ms.length N vMany vCounts) → (∀ (j : Nat) (x : MB), ms[j]? = some x → mT_Bits (N j) vCounts vNow j x) → (TB 2 ms.length N vThen) → (gIs rif is) → (gIs vIn is) → (is.length ≤ 6000) → (oct is) → (gIs rof os) → (gIs vOut os) → (os.length ≤ 6000) → (oct os) → (¬ frd = 0 → fBad = 0 → RD2 cn fAsk fCode fRR) → (dd + (rPh rik + rPh rok + rPh rwk) + 1600 * (8 - ms.length) ≤ 300000) → (ki ≤ 600) → (gIs rwf bs) → (gIs vGoing bs) → (eInv (Rg, Lw, ca, Pn, bs)) → (oct bs) → (bs.length + Pn ≤ 12 * ki) → (lgI (72 * ki) (Rg, Lw, ca, Pn, bs)) → C9) → C9
def EN_Bits (dC : Nat → ClassId) (dI : Nat → Nat → Nat) (cI cM cO : ClassId) (A : Nat → Prop) (rc o cn dd : Nat) (H : Heap) : Prop := ∀ (C9 : Prop), (∀ (ms : List MB) (is : List Nat) (os : List Nat) (fit : Int32) (fen : Int32) (frd : Int32) (fbd : Int32) (fir : Int32) (mf : Nat → Option Nat) (ma : Nat) (co : Nat) (xkeptCode : Int64) (xkeptRange : Int64) (xkeptAsked : Int32) (xcache : Int32) (xpending : Int32) (xlow : Int64) (xrange : Int64) (xcode : Int64) (xreadLow : Int64) (xreadRange : Int64) (ri : Nat) (ro : Nat) (rw : Nat) (xasked : Int32) (ria : Nat) (rik : Nat) (rif : Nat → Int32) (roa : Nat) (rok : Nat) (rof : Nat → Int32) (rwn : Int32) (rwa : Nat) (rwk : Nat) (rwf : Nat → Int32) (g : Nat → Nat) (fLow : Int64) (fRange : Int64) (fCache : Int32) (fPend : Int32) (fGoes : Int32) (fBad : Int32) (fIR : Int32) (fAsk : Int32) (fBAsk : Int32) (fCode : Int64) (fRL : Int64) (fRR : Int64) (fX : Int64) (fWrites : Int32) (fThrown : Int32) (vMany : Nat → Int32) (vCounts : Nat → Int32) (vNow : Nat → Int32) (vThen : Nat → Int32) (vIM : Nat → Int32) (vIW : Nat → Int32) (vGoing : Nat → Int32) (vOut : Nat → Int32) (vIn : Nat → Int32) (vSO : Nat → Int32) (vNO : Nat → Int32) (vWr : Nat → Int32) (N : Nat → Nat) (sh : Nat), va_P (dC, dI) vwCl ([(rc, Sum.inr (6, [Value.ref co, Value.ref ma, Value.int (nI ms.length), Value.int fit, Value.int fen, Value.int frd, Value.int fbd, Value.int fir])), (ma, Sum.inl (cM, 8, Sum.inr (Sum.inr (Sum.inr (Sum.inr mf))))), (co, Sum.inr (3, [Value.int (nI sh), Value.long xkeptCode, Value.long xkeptRange, Value.int xkeptAsked, Value.int xcache, Value.int xpending, Value.long xlow, Value.long xrange, Value.long xcode, Value.long xreadLow, Value.long xreadRange, Value.ref ri, Value.ref ro, Value.ref rw, Value.int xasked])), (ri, Sum.inr (0, [Value.int (nI is.length), Value.ref ria])), (ria, Sum.inl (cI, rik, Sum.inl rif)), (ro, Sum.inr (0, [Value.int (nI os.length), Value.ref roa])), (roa, Sum.inl (cI, rok, Sum.inl rof)), (rw, Sum.inr (0, [Value.int rwn, Value.ref rwa])), (rwa, Sum.inl (cI, rwk, Sum.inl rwf)), (o, Sum.inr (9, mO g 2 (nI sh) (nI ms.length) fit fen fLow fRange fCache fPend fGoes (nI os.length) (nI is.length) frd fBad fIR fAsk fBAsk fCode fRL fRR fX fWrites fThrown)), ((g 0), Sum.inl (cI, 8, Sum.inl vMany)), ((g 1), Sum.inl (cI, 512, Sum.inl vCounts)), ((g 2), Sum.inl (cI, 512, Sum.inl vNow)), ((g 3), Sum.inl (cI, 512, Sum.inl vThen)), ((g 4), Sum.inl (cI, 600, Sum.inl vIM)), ((g 5), Sum.inl (cI, 600, Sum.inl vIW)), ((g 6), Sum.inl (cI, 9000, Sum.inl vGoing)), ((g 7), Sum.inl (cI, 9000, Sum.inl vOut)), ((g 8), Sum.inl (cI, 6000, Sum.inl vIn)), ((g 9), Sum.inl (cI, 512, Sum.inl vSO)), ((g 10), Sum.inl (cI, 512, Sum.inl vNO)), ((g 11), Sum.inl (cI, 20000, Sum.inl vWr))] ++ mbsC cI ms) H → va_D A ([(rc, Sum.inr (6, [Value.ref co, Value.ref ma, Value.int (nI ms.length), Value.int fit, Value.int fen, Value.int frd, Value.int fbd, Value.int fir])), (ma, Sum.inl (cM, 8, Sum.inr (Sum.inr (Sum.inr (Sum.inr mf))))), (co, Sum.inr (3, [Value.int (nI sh), Value.long xkeptCode, Value.long xkeptRange, Value.int xkeptAsked, Value.int xcache, Value.int xpending, Value.long xlow, Value.long xrange, Value.long xcode, Value.long xreadLow, Value.long xreadRange, Value.ref ri, Value.ref ro, Value.ref rw, Value.int xasked])), (ri, Sum.inr (0, [Value.int (nI is.length), Value.ref ria])), (ria, Sum.inl (cI, rik, Sum.inl rif)), (ro, Sum.inr (0, [Value.int (nI os.length), Value.ref roa])), (roa, Sum.inl (cI, rok, Sum.inl rof)), (rw, Sum.inr (0, [Value.int rwn, Value.ref rwa])), (rwa, Sum.inl (cI, rwk, Sum.inl rwf)), (o, Sum.inr (9, mO g 2 (nI sh) (nI ms.length) fit fen fLow fRange fCache fPend fGoes (nI os.length) (nI is.length) frd fBad fIR fAsk fBAsk fCode fRL fRR fX fWrites fThrown)), ((g 0), Sum.inl (cI, 8, Sum.inl vMany)), ((g 1), Sum.inl (cI, 512, Sum.inl vCounts)), ((g 2), Sum.inl (cI, 512, Sum.inl vNow)), ((g 3), Sum.inl (cI, 512, Sum.inl vThen)), ((g 4), Sum.inl (cI, 600, Sum.inl vIM)), ((g 5), Sum.inl (cI, 600, Sum.inl vIW)), ((g 6), Sum.inl (cI, 9000, Sum.inl vGoing)), ((g 7), Sum.inl (cI, 9000, Sum.inl vOut)), ((g 8), Sum.inl (cI, 6000, Sum.inl vIn)), ((g 9), Sum.inl (cI, 512, Sum.inl vSO)), ((g 10), Sum.inl (cI, 512, Sum.inl vNO)), ((g 11), Sum.inl (cI, 20000, Sum.inl vWr))] ++ mbsC cI ms) → (ms.length ≤ 8) → (mfOk mf ms) → (∀ x ∈ ms, mbOk x) → (rOk (nI is.length) rik) → (rOk (nI os.length) rok) → (rOk rwn rwk) → (1 ≤ sh) → (sh ≤ 10) → (MD ms.length N vMany vCounts) → (∀ (j : Nat) (x : MB), ms[j]? = some x → mT_Bits (N j) vCounts vNow j x) → (TB 2 ms.length N vThen) → (gIs rif is) → (gIs vIn is) → (is.length ≤ 6000) → (oct is) → (gIs rof os) → (gIs vOut os) → (os.length ≤ 6000) → (oct os) → (¬ frd = 0 → fBad = 0 → RD2 cn fAsk fCode fRR) → (dd + (rPh rik + rPh rok + rPh rwk) + 1600 * (8 - ms.length) ≤ 300000) → (¬ fen = 0) → C9) → C9
set_option maxHeartbeats 4000000 in
theorem LI_split_Bits {dC : Nat → ClassId} {dI : Nat → Nat → Nat} {cI cM cO : ClassId} {A : Nat → Prop} {rc o cn dd : Nat} {H : Heap} (h : LI_Bits dC dI cI cM cO A rc o cn dd H) {C9 : Prop} (k1 : LV_Bits dC dI cI cM cO A rc o cn dd H → C9) (k2 : EN_Bits dC dI cI cM cO A rc o cn dd H → C9) : C9 := by
  refine h _ ?_
  intro ms is os fit fen frd fbd fir mf ma co xkeptCode xkeptRange xkeptAsked xcache xpending xlow xrange xcode xreadLow xreadRange ri ro rw xasked ria rik rif roa rok rof rwn rwa rwk rwf g fLow fRange fCache fPend fGoes fBad fIR fAsk fBAsk fCode fRL fRR fX fWrites fThrown vMany vCounts vNow vThen vIM vIW vGoing vOut vIn vSO vNO vWr N sh hP hD hk8 hmf hmo hri hro hrw hs1 hs2 hMD hmt hU hMS hIr hIm hI6 hIo hOr hOm hO6 hOo hRD hdd
  by_cases hfe : fen = 0
  · obtain ⟨ki, Rg, Lw, ca, Pn, bs, hki, rfl, rfl, rfl, rfl, rfl, rfl, rfl, rfl, rfl, rfl, rfl, hGc, hGm, hE, hoB, hlB, hlg⟩ := hMS hfe
    subst hfe
    exact k1 (fun C8 k8 => k8 ms is os frd fbd fir mf ma co xkeptCode xkeptRange xkeptAsked xcode xreadLow xreadRange ri ro rw xasked ria rik rif roa rok rof rwa rwk rwf g fBad fIR fAsk fBAsk fCode fRL fRR fX fWrites fThrown vMany vCounts vNow vThen vIM vIW vGoing vOut vIn vSO vNO vWr N sh ki Rg Lw ca Pn bs hP hD hk8 hmf hmo hri hro hrw hs1 hs2 hMD hmt hU hIr hIm hI6 hIo hOr hOm hO6 hOo hRD hdd hki hGc hGm hE hoB hlB hlg)
  · exact k2 (fun C8 k8 => k8 ms is os fit fen frd fbd fir mf ma co xkeptCode xkeptRange xkeptAsked xcache xpending xlow xrange xcode xreadLow xreadRange ri ro rw xasked ria rik rif roa rok rof rwn rwa rwk rwf g fLow fRange fCache fPend fGoes fBad fIR fAsk fBAsk fCode fRL fRR fX fWrites fThrown vMany vCounts vNow vThen vIM vIW vGoing vOut vIn vSO vNO vWr N sh hP hD hk8 hmf hmo hri hro hrw hs1 hs2 hMD hmt hU hIr hIm hI6 hIo hOr hOm hO6 hOo hRD hdd hfe)
def LI_Stack (dC : Nat → ClassId) (dI : Nat → Nat → Nat) (cI cM cO : ClassId) (A : Nat → Prop) (rc o cn dd : Nat) (H : Heap) : Prop := ∀ (C9 : Prop), (∀ (ms : List MB) (is : List Nat) (os : List Nat) (fit : Int32) (fen : Int32) (frd : Int32) (fbd : Int32) (fir : Int32) (mf : Nat → Option Nat) (ma : Nat) (co : Nat) (xx : Int64) (xreadX : Int64) (soa : Nat) (sna : Nat) (swa : Nat) (xkept : Int32) (ri : Nat) (ro : Nat) (rw : Nat) (xasked : Int32) (ria : Nat) (rik : Nat) (rif : Nat → Int32) (roa : Nat) (rok : Nat) (rof : Nat → Int32) (rwn : Int32) (rwa : Nat) (rwk : Nat) (rwf : Nat → Int32) (sof : Nat → Option Nat) (snf : Nat → Int32) (swf : Nat → Int32) (g : Nat → Nat) (fShift : Int32) (fLow : Int64) (fRange : Int64) (fCache : Int32) (fPend : Int32) (fGoes : Int32) (fBad : Int32) (fIR : Int32) (fAsk : Int32) (fBAsk : Int32) (fCode : Int64) (fRL : Int64) (fRR : Int64) (fX : Int64) (fWrites : Int32) (fThrown : Int32) (vMany : Nat → Int32) (vCounts : Nat → Int32) (vNow : Nat → Int32) (vThen : Nat → Int32) (vIM : Nat → Int32) (vIW : Nat → Int32) (vGoing : Nat → Int32) (vOut : Nat → Int32) (vIn : Nat → Int32) (vSO : Nat → Int32) (vNO : Nat → Int32) (vWr : Nat → Int32) (N : Nat → Nat), va_P (dC, dI) vwCl ([(rc, Sum.inr (6, [Value.ref co, Value.ref ma, Value.int (nI ms.length), Value.int fit, Value.int fen, Value.int frd, Value.int fbd, Value.int fir])), (ma, Sum.inl (cM, 8, Sum.inr (Sum.inr (Sum.inr (Sum.inr mf))))), (co, Sum.inr (4, [Value.long xx, Value.long xreadX, Value.ref soa, Value.ref sna, Value.ref swa, Value.int xkept, Value.ref ri, Value.ref ro, Value.ref rw, Value.int xasked])), (ri, Sum.inr (0, [Value.int (nI is.length), Value.ref ria])), (ria, Sum.inl (cI, rik, Sum.inl rif)), (ro, Sum.inr (0, [Value.int (nI os.length), Value.ref roa])), (roa, Sum.inl (cI, rok, Sum.inl rof)), (rw, Sum.inr (0, [Value.int rwn, Value.ref rwa])), (rwa, Sum.inl (cI, rwk, Sum.inl rwf)), (soa, Sum.inl (cO, 600, Sum.inr (Sum.inr (Sum.inr (Sum.inr sof))))), (sna, Sum.inl (cI, 600, Sum.inl snf)), (swa, Sum.inl (cI, 600, Sum.inl swf)), (o, Sum.inr (9, mO g 3 fShift (nI ms.length) fit fen fLow fRange fCache fPend fGoes (nI os.length) (nI is.length) frd fBad fIR fAsk fBAsk fCode fRL fRR fX fWrites fThrown)), ((g 0), Sum.inl (cI, 8, Sum.inl vMany)), ((g 1), Sum.inl (cI, 512, Sum.inl vCounts)), ((g 2), Sum.inl (cI, 512, Sum.inl vNow)), ((g 3), Sum.inl (cI, 512, Sum.inl vThen)), ((g 4), Sum.inl (cI, 600, Sum.inl vIM)), ((g 5), Sum.inl (cI, 600, Sum.inl vIW)), ((g 6), Sum.inl (cI, 9000, Sum.inl vGoing)), ((g 7), Sum.inl (cI, 9000, Sum.inl vOut)), ((g 8), Sum.inl (cI, 6000, Sum.inl vIn)), ((g 9), Sum.inl (cI, 512, Sum.inl vSO)), ((g 10), Sum.inl (cI, 512, Sum.inl vNO)), ((g 11), Sum.inl (cI, 20000, Sum.inl vWr))] ++ mbsC cI ms) H → va_D A ([(rc, Sum.inr (6, [Value.ref co, Value.ref ma, Value.int (nI ms.length), Value.int fit, Value.int fen, Value.int frd, Value.int fbd, Value.int fir])), (ma, Sum.inl (cM, 8, Sum.inr (Sum.inr (Sum.inr (Sum.inr mf))))), (co, Sum.inr (4, [Value.long xx, Value.long xreadX, Value.ref soa, Value.ref sna, Value.ref swa, Value.int xkept, Value.ref ri, Value.ref ro, Value.ref rw, Value.int xasked])), (ri, Sum.inr (0, [Value.int (nI is.length), Value.ref ria])), (ria, Sum.inl (cI, rik, Sum.inl rif)), (ro, Sum.inr (0, [Value.int (nI os.length), Value.ref roa])), (roa, Sum.inl (cI, rok, Sum.inl rof)), (rw, Sum.inr (0, [Value.int rwn, Value.ref rwa])), (rwa, Sum.inl (cI, rwk, Sum.inl rwf)), (soa, Sum.inl (cO, 600, Sum.inr (Sum.inr (Sum.inr (Sum.inr sof))))), (sna, Sum.inl (cI, 600, Sum.inl snf)), (swa, Sum.inl (cI, 600, Sum.inl swf)), (o, Sum.inr (9, mO g 3 fShift (nI ms.length) fit fen fLow fRange fCache fPend fGoes (nI os.length) (nI is.length) frd fBad fIR fAsk fBAsk fCode fRL fRR fX fWrites fThrown)), ((g 0), Sum.inl (cI, 8, Sum.inl vMany)), ((g 1), Sum.inl (cI, 512, Sum.inl vCounts)), ((g 2), Sum.inl (cI, 512, Sum.inl vNow)), ((g 3), Sum.inl (cI, 512, Sum.inl vThen)), ((g 4), Sum.inl (cI, 600, Sum.inl vIM)), ((g 5), Sum.inl (cI, 600, Sum.inl vIW)), ((g 6), Sum.inl (cI, 9000, Sum.inl vGoing)), ((g 7), Sum.inl (cI, 9000, Sum.inl vOut)), ((g 8), Sum.inl (cI, 6000, Sum.inl vIn)), ((g 9), Sum.inl (cI, 512, Sum.inl vSO)), ((g 10), Sum.inl (cI, 512, Sum.inl vNO)), ((g 11), Sum.inl (cI, 20000, Sum.inl vWr))] ++ mbsC cI ms) → (ms.length ≤ 8) → (mfOk mf ms) → (∀ x ∈ ms, mbOk x) → (rOk (nI is.length) rik) → (rOk (nI os.length) rok) → (rOk rwn rwk) → (MD ms.length N vMany vCounts) → (∀ (j : Nat) (x : MB), ms[j]? = some x → mT_Stack (N j) vCounts vNow j x) → (TB 3 ms.length N vThen) → (fen = 0 → MT3 4096 12 ms N fit xkept sof snf swf fGoes vIM vIW vNow) → (gIs rif is) → (gIs vIn is) → (is.length ≤ 6000) → (oct is) → (gIs rof os) → (gIs vOut os) → (os.length ≤ 6000) → (oct os) → (¬ frd = 0 → fBad = 0 → RD3 cn fAsk fX) → (dd + (rPh rik + rPh rok + rPh rwk) + 1600 * (8 - ms.length) ≤ 300000) → C9) → C9
def LV_Stack (dC : Nat → ClassId) (dI : Nat → Nat → Nat) (cI cM cO : ClassId) (A : Nat → Prop) (rc o cn dd : Nat) (H : Heap) : Prop := ∀ (C9 : Prop), (∀ (ms : List MB) (is : List Nat) (os : List Nat) (frd : Int32) (fbd : Int32) (fir : Int32) (mf : Nat → Option Nat) (ma : Nat) (co : Nat) (xx : Int64) (xreadX : Int64) (soa : Nat) (sna : Nat) (swa : Nat) (ri : Nat) (ro : Nat) (rw : Nat) (xasked : Int32) (ria : Nat) (rik : Nat) (rif : Nat → Int32) (roa : Nat) (rok : Nat) (rof : Nat → Int32) (rwn : Int32) (rwa : Nat) (rwk : Nat) (rwf : Nat → Int32) (sof : Nat → Option Nat) (snf : Nat → Int32) (swf : Nat → Int32) (g : Nat → Nat) (fShift : Int32) (fLow : Int64) (fRange : Int64) (fCache : Int32) (fPend : Int32) (fBad : Int32) (fIR : Int32) (fAsk : Int32) (fBAsk : Int32) (fCode : Int64) (fRL : Int64) (fRR : Int64) (fX : Int64) (fWrites : Int32) (fThrown : Int32) (vMany : Nat → Int32) (vCounts : Nat → Int32) (vNow : Nat → Int32) (vThen : Nat → Int32) (vIM : Nat → Int32) (vIW : Nat → Int32) (vGoing : Nat → Int32) (vOut : Nat → Int32) (vIn : Nat → Int32) (vSO : Nat → Int32) (vNO : Nat → Int32) (vWr : Nat → Int32) (N : Nat → Nat) (its : List It), va_P (dC, dI) vwCl ([(rc, Sum.inr (6, [Value.ref co, Value.ref ma, Value.int (nI ms.length), Value.int (nI its.length), Value.int 0, Value.int frd, Value.int fbd, Value.int fir])), (ma, Sum.inl (cM, 8, Sum.inr (Sum.inr (Sum.inr (Sum.inr mf))))), (co, Sum.inr (4, [Value.long xx, Value.long xreadX, Value.ref soa, Value.ref sna, Value.ref swa, Value.int (nI its.length), Value.ref ri, Value.ref ro, Value.ref rw, Value.int xasked])), (ri, Sum.inr (0, [Value.int (nI is.length), Value.ref ria])), (ria, Sum.inl (cI, rik, Sum.inl rif)), (ro, Sum.inr (0, [Value.int (nI os.length), Value.ref roa])), (roa, Sum.inl (cI, rok, Sum.inl rof)), (rw, Sum.inr (0, [Value.int rwn, Value.ref rwa])), (rwa, Sum.inl (cI, rwk, Sum.inl rwf)), (soa, Sum.inl (cO, 600, Sum.inr (Sum.inr (Sum.inr (Sum.inr sof))))), (sna, Sum.inl (cI, 600, Sum.inl snf)), (swa, Sum.inl (cI, 600, Sum.inl swf)), (o, Sum.inr (9, mO g 3 fShift (nI ms.length) (nI its.length) 0 fLow fRange fCache fPend 0 (nI os.length) (nI is.length) frd fBad fIR fAsk fBAsk fCode fRL fRR fX fWrites fThrown)), ((g 0), Sum.inl (cI, 8, Sum.inl vMany)), ((g 1), Sum.inl (cI, 512, Sum.inl vCounts)), ((g 2), Sum.inl (cI, 512, Sum.inl vNow)), ((g 3), Sum.inl (cI, 512, Sum.inl vThen)), ((g 4), Sum.inl (cI, 600, Sum.inl vIM)), ((g 5), Sum.inl (cI, 600, Sum.inl vIW)), ((g 6), Sum.inl (cI, 9000, Sum.inl vGoing)), ((g 7), Sum.inl (cI, 9000, Sum.inl vOut)), ((g 8), Sum.inl (cI, 6000, Sum.inl vIn)), ((g 9), Sum.inl (cI, 512, Sum.inl vSO)), ((g 10), Sum.inl (cI, 512, Sum.inl vNO)), ((g 11), Sum.inl (cI, 20000, Sum.inl vWr))] ++ mbsC cI ms) H → va_D A ([(rc, Sum.inr (6, [Value.ref co, Value.ref ma, Value.int (nI ms.length), Value.int (nI its.length), Value.int 0, Value.int frd, Value.int fbd, Value.int fir])), (ma, Sum.inl (cM, 8, Sum.inr (Sum.inr (Sum.inr (Sum.inr mf))))), (co, Sum.inr (4, [Value.long xx, Value.long xreadX, Value.ref soa, Value.ref sna, Value.ref swa, Value.int (nI its.length), Value.ref ri, Value.ref ro, Value.ref rw, Value.int xasked])), (ri, Sum.inr (0, [Value.int (nI is.length), Value.ref ria])), (ria, Sum.inl (cI, rik, Sum.inl rif)), (ro, Sum.inr (0, [Value.int (nI os.length), Value.ref roa])), (roa, Sum.inl (cI, rok, Sum.inl rof)), (rw, Sum.inr (0, [Value.int rwn, Value.ref rwa])), (rwa, Sum.inl (cI, rwk, Sum.inl rwf)), (soa, Sum.inl (cO, 600, Sum.inr (Sum.inr (Sum.inr (Sum.inr sof))))), (sna, Sum.inl (cI, 600, Sum.inl snf)), (swa, Sum.inl (cI, 600, Sum.inl swf)), (o, Sum.inr (9, mO g 3 fShift (nI ms.length) (nI its.length) 0 fLow fRange fCache fPend 0 (nI os.length) (nI is.length) frd fBad fIR fAsk fBAsk fCode fRL fRR fX fWrites fThrown)), ((g 0), Sum.inl (cI, 8, Sum.inl vMany)), ((g 1), Sum.inl (cI, 512, Sum.inl vCounts)), ((g 2), Sum.inl (cI, 512, Sum.inl vNow)), ((g 3), Sum.inl (cI, 512, Sum.inl vThen)), ((g 4), Sum.inl (cI, 600, Sum.inl vIM)), ((g 5), Sum.inl (cI, 600, Sum.inl vIW)), ((g 6), Sum.inl (cI, 9000, Sum.inl vGoing)), ((g 7), Sum.inl (cI, 9000, Sum.inl vOut)), ((g 8), Sum.inl (cI, 6000, Sum.inl vIn)), ((g 9), Sum.inl (cI, 512, Sum.inl vSO)), ((g 10), Sum.inl (cI, 512, Sum.inl vNO)), ((g 11), Sum.inl (cI, 20000, Sum.inl vWr))] ++ mbsC cI ms) → (ms.length ≤ 8) → (mfOk mf ms) → (∀ x ∈ ms, mbOk x) → (rOk (nI is.length) rik) → (rOk (nI os.length) rok) → (rOk rwn rwk) → (MD ms.length N vMany vCounts) → (∀ (j : Nat) (x : MB), ms[j]? = some x → mT_Stack (N j) vCounts vNow j x) → (TB 3 ms.length N vThen) → (gIs rif is) → (gIs vIn is) → (is.length ≤ 6000) → (oct is) → (gIs rof os) → (gIs vOut os) → (os.length ≤ 6000) → (oct os) → (¬ frd = 0 → fBad = 0 → RD3 cn fAsk fX) → (dd + (rPh rik + rPh rok + rPh rwk) + 1600 * (8 - ms.length) ≤ 300000) → (its.length ≤ 600) → (itIs vIM vIW its) → (∀ i, i < its.length → itOk 4096 12 ms.length N vNow (itA its i)) → (∀ i, i < its.length → kI ms sof snf swf i (itA its i)) → C9) → C9
def EN_Stack (dC : Nat → ClassId) (dI : Nat → Nat → Nat) (cI cM cO : ClassId) (A : Nat → Prop) (rc o cn dd : Nat) (H : Heap) : Prop := ∀ (C9 : Prop), (∀ (ms : List MB) (is : List Nat) (os : List Nat) (fit : Int32) (fen : Int32) (frd : Int32) (fbd : Int32) (fir : Int32) (mf : Nat → Option Nat) (ma : Nat) (co : Nat) (xx : Int64) (xreadX : Int64) (soa : Nat) (sna : Nat) (swa : Nat) (xkept : Int32) (ri : Nat) (ro : Nat) (rw : Nat) (xasked : Int32) (ria : Nat) (rik : Nat) (rif : Nat → Int32) (roa : Nat) (rok : Nat) (rof : Nat → Int32) (rwn : Int32) (rwa : Nat) (rwk : Nat) (rwf : Nat → Int32) (sof : Nat → Option Nat) (snf : Nat → Int32) (swf : Nat → Int32) (g : Nat → Nat) (fShift : Int32) (fLow : Int64) (fRange : Int64) (fCache : Int32) (fPend : Int32) (fGoes : Int32) (fBad : Int32) (fIR : Int32) (fAsk : Int32) (fBAsk : Int32) (fCode : Int64) (fRL : Int64) (fRR : Int64) (fX : Int64) (fWrites : Int32) (fThrown : Int32) (vMany : Nat → Int32) (vCounts : Nat → Int32) (vNow : Nat → Int32) (vThen : Nat → Int32) (vIM : Nat → Int32) (vIW : Nat → Int32) (vGoing : Nat → Int32) (vOut : Nat → Int32) (vIn : Nat → Int32) (vSO : Nat → Int32) (vNO : Nat → Int32) (vWr : Nat → Int32) (N : Nat → Nat), va_P (dC, dI) vwCl ([(rc, Sum.inr (6, [Value.ref co, Value.ref ma, Value.int (nI ms.length), Value.int fit, Value.int fen, Value.int frd, Value.int fbd, Value.int fir])), (ma, Sum.inl (cM, 8, Sum.inr (Sum.inr (Sum.inr (Sum.inr mf))))), (co, Sum.inr (4, [Value.long xx, Value.long xreadX, Value.ref soa, Value.ref sna, Value.ref swa, Value.int xkept, Value.ref ri, Value.ref ro, Value.ref rw, Value.int xasked])), (ri, Sum.inr (0, [Value.int (nI is.length), Value.ref ria])), (ria, Sum.inl (cI, rik, Sum.inl rif)), (ro, Sum.inr (0, [Value.int (nI os.length), Value.ref roa])), (roa, Sum.inl (cI, rok, Sum.inl rof)), (rw, Sum.inr (0, [Value.int rwn, Value.ref rwa])), (rwa, Sum.inl (cI, rwk, Sum.inl rwf)), (soa, Sum.inl (cO, 600, Sum.inr (Sum.inr (Sum.inr (Sum.inr sof))))), (sna, Sum.inl (cI, 600, Sum.inl snf)), (swa, Sum.inl (cI, 600, Sum.inl swf)), (o, Sum.inr (9, mO g 3 fShift (nI ms.length) fit fen fLow fRange fCache fPend fGoes (nI os.length) (nI is.length) frd fBad fIR fAsk fBAsk fCode fRL fRR fX fWrites fThrown)), ((g 0), Sum.inl (cI, 8, Sum.inl vMany)), ((g 1), Sum.inl (cI, 512, Sum.inl vCounts)), ((g 2), Sum.inl (cI, 512, Sum.inl vNow)), ((g 3), Sum.inl (cI, 512, Sum.inl vThen)), ((g 4), Sum.inl (cI, 600, Sum.inl vIM)), ((g 5), Sum.inl (cI, 600, Sum.inl vIW)), ((g 6), Sum.inl (cI, 9000, Sum.inl vGoing)), ((g 7), Sum.inl (cI, 9000, Sum.inl vOut)), ((g 8), Sum.inl (cI, 6000, Sum.inl vIn)), ((g 9), Sum.inl (cI, 512, Sum.inl vSO)), ((g 10), Sum.inl (cI, 512, Sum.inl vNO)), ((g 11), Sum.inl (cI, 20000, Sum.inl vWr))] ++ mbsC cI ms) H → va_D A ([(rc, Sum.inr (6, [Value.ref co, Value.ref ma, Value.int (nI ms.length), Value.int fit, Value.int fen, Value.int frd, Value.int fbd, Value.int fir])), (ma, Sum.inl (cM, 8, Sum.inr (Sum.inr (Sum.inr (Sum.inr mf))))), (co, Sum.inr (4, [Value.long xx, Value.long xreadX, Value.ref soa, Value.ref sna, Value.ref swa, Value.int xkept, Value.ref ri, Value.ref ro, Value.ref rw, Value.int xasked])), (ri, Sum.inr (0, [Value.int (nI is.length), Value.ref ria])), (ria, Sum.inl (cI, rik, Sum.inl rif)), (ro, Sum.inr (0, [Value.int (nI os.length), Value.ref roa])), (roa, Sum.inl (cI, rok, Sum.inl rof)), (rw, Sum.inr (0, [Value.int rwn, Value.ref rwa])), (rwa, Sum.inl (cI, rwk, Sum.inl rwf)), (soa, Sum.inl (cO, 600, Sum.inr (Sum.inr (Sum.inr (Sum.inr sof))))), (sna, Sum.inl (cI, 600, Sum.inl snf)), (swa, Sum.inl (cI, 600, Sum.inl swf)), (o, Sum.inr (9, mO g 3 fShift (nI ms.length) fit fen fLow fRange fCache fPend fGoes (nI os.length) (nI is.length) frd fBad fIR fAsk fBAsk fCode fRL fRR fX fWrites fThrown)), ((g 0), Sum.inl (cI, 8, Sum.inl vMany)), ((g 1), Sum.inl (cI, 512, Sum.inl vCounts)), ((g 2), Sum.inl (cI, 512, Sum.inl vNow)), ((g 3), Sum.inl (cI, 512, Sum.inl vThen)), ((g 4), Sum.inl (cI, 600, Sum.inl vIM)), ((g 5), Sum.inl (cI, 600, Sum.inl vIW)), ((g 6), Sum.inl (cI, 9000, Sum.inl vGoing)), ((g 7), Sum.inl (cI, 9000, Sum.inl vOut)), ((g 8), Sum.inl (cI, 6000, Sum.inl vIn)), ((g 9), Sum.inl (cI, 512, Sum.inl vSO)), ((g 10), Sum.inl (cI, 512, Sum.inl vNO)), ((g 11), Sum.inl (cI, 20000, Sum.inl vWr))] ++ mbsC cI ms) → (ms.length ≤ 8) → (mfOk mf ms) → (∀ x ∈ ms, mbOk x) → (rOk (nI is.length) rik) → (rOk (nI os.length) rok) → (rOk rwn rwk) → (MD ms.length N vMany vCounts) → (∀ (j : Nat) (x : MB), ms[j]? = some x → mT_Stack (N j) vCounts vNow j x) → (TB 3 ms.length N vThen) → (gIs rif is) → (gIs vIn is) → (is.length ≤ 6000) → (oct is) → (gIs rof os) → (gIs vOut os) → (os.length ≤ 6000) → (oct os) → (¬ frd = 0 → fBad = 0 → RD3 cn fAsk fX) → (dd + (rPh rik + rPh rok + rPh rwk) + 1600 * (8 - ms.length) ≤ 300000) → (¬ fen = 0) → C9) → C9
set_option maxHeartbeats 4000000 in
theorem LI_split_Stack {dC : Nat → ClassId} {dI : Nat → Nat → Nat} {cI cM cO : ClassId} {A : Nat → Prop} {rc o cn dd : Nat} {H : Heap} (h : LI_Stack dC dI cI cM cO A rc o cn dd H) {C9 : Prop} (k1 : LV_Stack dC dI cI cM cO A rc o cn dd H → C9) (k2 : EN_Stack dC dI cI cM cO A rc o cn dd H → C9) : C9 := by
  refine h _ ?_
  intro ms is os fit fen frd fbd fir mf ma co xx xreadX soa sna swa xkept ri ro rw xasked ria rik rif roa rok rof rwn rwa rwk rwf sof snf swf g fShift fLow fRange fCache fPend fGoes fBad fIR fAsk fBAsk fCode fRL fRR fX fWrites fThrown vMany vCounts vNow vThen vIM vIW vGoing vOut vIn vSO vNO vWr N hP hD hk8 hmf hmo hri hro hrw hMD hmt hU hMS hIr hIm hI6 hIo hOr hOm hO6 hOo hRD hdd
  by_cases hfe : fen = 0
  · obtain ⟨its, hki, rfl, rfl, rfl, hit, hok, hkI⟩ := hMS hfe
    subst hfe
    exact k1 (fun C8 k8 => k8 ms is os frd fbd fir mf ma co xx xreadX soa sna swa ri ro rw xasked ria rik rif roa rok rof rwn rwa rwk rwf sof snf swf g fShift fLow fRange fCache fPend fBad fIR fAsk fBAsk fCode fRL fRR fX fWrites fThrown vMany vCounts vNow vThen vIM vIW vGoing vOut vIn vSO vNO vWr N its hP hD hk8 hmf hmo hri hro hrw hMD hmt hU hIr hIm hI6 hIo hOr hOm hO6 hOo hRD hdd hki hit hok hkI)
  · exact k2 (fun C8 k8 => k8 ms is os fit fen frd fbd fir mf ma co xx xreadX soa sna swa xkept ri ro rw xasked ria rik rif roa rok rof rwn rwa rwk rwf sof snf swf g fShift fLow fRange fCache fPend fGoes fBad fIR fAsk fBAsk fCode fRL fRR fX fWrites fThrown vMany vCounts vNow vThen vIM vIW vGoing vOut vIn vSO vNO vWr N hP hD hk8 hmf hmo hri hro hrw hMD hmt hU hIr hIm hI6 hIo hOr hOm hO6 hOo hRD hdd hfe)
def LI_Table (dC : Nat → ClassId) (dI : Nat → Nat → Nat) (cI cM cO : ClassId) (A : Nat → Prop) (rc o cn dd : Nat) (H : Heap) : Prop := ∀ (C9 : Prop), (∀ (ms : List MB) (is : List Nat) (os : List Nat) (fit : Int32) (fen : Int32) (frd : Int32) (fbd : Int32) (fir : Int32) (mf : Nat → Option Nat) (ma : Nat) (co : Nat) (xx : Int64) (xreadX : Int64) (soa : Nat) (sna : Nat) (swa : Nat) (xkept : Int32) (ri : Nat) (ro : Nat) (rw : Nat) (xasked : Int32) (ria : Nat) (rik : Nat) (rif : Nat → Int32) (roa : Nat) (rok : Nat) (rof : Nat → Int32) (rwn : Int32) (rwa : Nat) (rwk : Nat) (rwf : Nat → Int32) (sof : Nat → Option Nat) (snf : Nat → Int32) (swf : Nat → Int32) (g : Nat → Nat) (fShift : Int32) (fLow : Int64) (fRange : Int64) (fCache : Int32) (fPend : Int32) (fGoes : Int32) (fBad : Int32) (fIR : Int32) (fAsk : Int32) (fBAsk : Int32) (fCode : Int64) (fRL : Int64) (fRR : Int64) (fX : Int64) (fWrites : Int32) (fThrown : Int32) (vMany : Nat → Int32) (vCounts : Nat → Int32) (vNow : Nat → Int32) (vThen : Nat → Int32) (vIM : Nat → Int32) (vIW : Nat → Int32) (vGoing : Nat → Int32) (vOut : Nat → Int32) (vIn : Nat → Int32) (vSO : Nat → Int32) (vNO : Nat → Int32) (vWr : Nat → Int32) (N : Nat → Nat), va_P (dC, dI) vwCl ([(rc, Sum.inr (6, [Value.ref co, Value.ref ma, Value.int (nI ms.length), Value.int fit, Value.int fen, Value.int frd, Value.int fbd, Value.int fir])), (ma, Sum.inl (cM, 8, Sum.inr (Sum.inr (Sum.inr (Sum.inr mf))))), (co, Sum.inr (5, [Value.long xx, Value.long xreadX, Value.ref soa, Value.ref sna, Value.ref swa, Value.int xkept, Value.ref ri, Value.ref ro, Value.ref rw, Value.int xasked])), (ri, Sum.inr (0, [Value.int (nI is.length), Value.ref ria])), (ria, Sum.inl (cI, rik, Sum.inl rif)), (ro, Sum.inr (0, [Value.int (nI os.length), Value.ref roa])), (roa, Sum.inl (cI, rok, Sum.inl rof)), (rw, Sum.inr (0, [Value.int rwn, Value.ref rwa])), (rwa, Sum.inl (cI, rwk, Sum.inl rwf)), (soa, Sum.inl (cO, 600, Sum.inr (Sum.inr (Sum.inr (Sum.inr sof))))), (sna, Sum.inl (cI, 600, Sum.inl snf)), (swa, Sum.inl (cI, 600, Sum.inl swf)), (o, Sum.inr (9, mO g 4 fShift (nI ms.length) fit fen fLow fRange fCache fPend fGoes (nI os.length) (nI is.length) frd fBad fIR fAsk fBAsk fCode fRL fRR fX fWrites fThrown)), ((g 0), Sum.inl (cI, 8, Sum.inl vMany)), ((g 1), Sum.inl (cI, 512, Sum.inl vCounts)), ((g 2), Sum.inl (cI, 512, Sum.inl vNow)), ((g 3), Sum.inl (cI, 512, Sum.inl vThen)), ((g 4), Sum.inl (cI, 600, Sum.inl vIM)), ((g 5), Sum.inl (cI, 600, Sum.inl vIW)), ((g 6), Sum.inl (cI, 9000, Sum.inl vGoing)), ((g 7), Sum.inl (cI, 9000, Sum.inl vOut)), ((g 8), Sum.inl (cI, 6000, Sum.inl vIn)), ((g 9), Sum.inl (cI, 512, Sum.inl vSO)), ((g 10), Sum.inl (cI, 512, Sum.inl vNO)), ((g 11), Sum.inl (cI, 20000, Sum.inl vWr))] ++ mbsC cI ms) H → va_D A ([(rc, Sum.inr (6, [Value.ref co, Value.ref ma, Value.int (nI ms.length), Value.int fit, Value.int fen, Value.int frd, Value.int fbd, Value.int fir])), (ma, Sum.inl (cM, 8, Sum.inr (Sum.inr (Sum.inr (Sum.inr mf))))), (co, Sum.inr (5, [Value.long xx, Value.long xreadX, Value.ref soa, Value.ref sna, Value.ref swa, Value.int xkept, Value.ref ri, Value.ref ro, Value.ref rw, Value.int xasked])), (ri, Sum.inr (0, [Value.int (nI is.length), Value.ref ria])), (ria, Sum.inl (cI, rik, Sum.inl rif)), (ro, Sum.inr (0, [Value.int (nI os.length), Value.ref roa])), (roa, Sum.inl (cI, rok, Sum.inl rof)), (rw, Sum.inr (0, [Value.int rwn, Value.ref rwa])), (rwa, Sum.inl (cI, rwk, Sum.inl rwf)), (soa, Sum.inl (cO, 600, Sum.inr (Sum.inr (Sum.inr (Sum.inr sof))))), (sna, Sum.inl (cI, 600, Sum.inl snf)), (swa, Sum.inl (cI, 600, Sum.inl swf)), (o, Sum.inr (9, mO g 4 fShift (nI ms.length) fit fen fLow fRange fCache fPend fGoes (nI os.length) (nI is.length) frd fBad fIR fAsk fBAsk fCode fRL fRR fX fWrites fThrown)), ((g 0), Sum.inl (cI, 8, Sum.inl vMany)), ((g 1), Sum.inl (cI, 512, Sum.inl vCounts)), ((g 2), Sum.inl (cI, 512, Sum.inl vNow)), ((g 3), Sum.inl (cI, 512, Sum.inl vThen)), ((g 4), Sum.inl (cI, 600, Sum.inl vIM)), ((g 5), Sum.inl (cI, 600, Sum.inl vIW)), ((g 6), Sum.inl (cI, 9000, Sum.inl vGoing)), ((g 7), Sum.inl (cI, 9000, Sum.inl vOut)), ((g 8), Sum.inl (cI, 6000, Sum.inl vIn)), ((g 9), Sum.inl (cI, 512, Sum.inl vSO)), ((g 10), Sum.inl (cI, 512, Sum.inl vNO)), ((g 11), Sum.inl (cI, 20000, Sum.inl vWr))] ++ mbsC cI ms) → (ms.length ≤ 8) → (mfOk mf ms) → (∀ x ∈ ms, mbOk x) → (rOk (nI is.length) rik) → (rOk (nI os.length) rok) → (rOk rwn rwk) → (MD ms.length N vMany vCounts) → (∀ (j : Nat) (x : MB), ms[j]? = some x → mT_Table (N j) vCounts vNow j x) → (TB 4 ms.length N vThen) → (fen = 0 → MT3 512 9 ms N fit xkept sof snf swf fGoes vIM vIW vNow) → (gIs rif is) → (gIs vIn is) → (is.length ≤ 6000) → (oct is) → (gIs rof os) → (gIs vOut os) → (os.length ≤ 6000) → (oct os) → (¬ frd = 0 → fBad = 0 → RD4 cn fAsk fBAsk fX) → (dd + (rPh rik + rPh rok + rPh rwk) + 1600 * (8 - ms.length) ≤ 300000) → C9) → C9
def LV_Table (dC : Nat → ClassId) (dI : Nat → Nat → Nat) (cI cM cO : ClassId) (A : Nat → Prop) (rc o cn dd : Nat) (H : Heap) : Prop := ∀ (C9 : Prop), (∀ (ms : List MB) (is : List Nat) (os : List Nat) (frd : Int32) (fbd : Int32) (fir : Int32) (mf : Nat → Option Nat) (ma : Nat) (co : Nat) (xx : Int64) (xreadX : Int64) (soa : Nat) (sna : Nat) (swa : Nat) (ri : Nat) (ro : Nat) (rw : Nat) (xasked : Int32) (ria : Nat) (rik : Nat) (rif : Nat → Int32) (roa : Nat) (rok : Nat) (rof : Nat → Int32) (rwn : Int32) (rwa : Nat) (rwk : Nat) (rwf : Nat → Int32) (sof : Nat → Option Nat) (snf : Nat → Int32) (swf : Nat → Int32) (g : Nat → Nat) (fShift : Int32) (fLow : Int64) (fRange : Int64) (fCache : Int32) (fPend : Int32) (fBad : Int32) (fIR : Int32) (fAsk : Int32) (fBAsk : Int32) (fCode : Int64) (fRL : Int64) (fRR : Int64) (fX : Int64) (fWrites : Int32) (fThrown : Int32) (vMany : Nat → Int32) (vCounts : Nat → Int32) (vNow : Nat → Int32) (vThen : Nat → Int32) (vIM : Nat → Int32) (vIW : Nat → Int32) (vGoing : Nat → Int32) (vOut : Nat → Int32) (vIn : Nat → Int32) (vSO : Nat → Int32) (vNO : Nat → Int32) (vWr : Nat → Int32) (N : Nat → Nat) (its : List It), va_P (dC, dI) vwCl ([(rc, Sum.inr (6, [Value.ref co, Value.ref ma, Value.int (nI ms.length), Value.int (nI its.length), Value.int 0, Value.int frd, Value.int fbd, Value.int fir])), (ma, Sum.inl (cM, 8, Sum.inr (Sum.inr (Sum.inr (Sum.inr mf))))), (co, Sum.inr (5, [Value.long xx, Value.long xreadX, Value.ref soa, Value.ref sna, Value.ref swa, Value.int (nI its.length), Value.ref ri, Value.ref ro, Value.ref rw, Value.int xasked])), (ri, Sum.inr (0, [Value.int (nI is.length), Value.ref ria])), (ria, Sum.inl (cI, rik, Sum.inl rif)), (ro, Sum.inr (0, [Value.int (nI os.length), Value.ref roa])), (roa, Sum.inl (cI, rok, Sum.inl rof)), (rw, Sum.inr (0, [Value.int rwn, Value.ref rwa])), (rwa, Sum.inl (cI, rwk, Sum.inl rwf)), (soa, Sum.inl (cO, 600, Sum.inr (Sum.inr (Sum.inr (Sum.inr sof))))), (sna, Sum.inl (cI, 600, Sum.inl snf)), (swa, Sum.inl (cI, 600, Sum.inl swf)), (o, Sum.inr (9, mO g 4 fShift (nI ms.length) (nI its.length) 0 fLow fRange fCache fPend 0 (nI os.length) (nI is.length) frd fBad fIR fAsk fBAsk fCode fRL fRR fX fWrites fThrown)), ((g 0), Sum.inl (cI, 8, Sum.inl vMany)), ((g 1), Sum.inl (cI, 512, Sum.inl vCounts)), ((g 2), Sum.inl (cI, 512, Sum.inl vNow)), ((g 3), Sum.inl (cI, 512, Sum.inl vThen)), ((g 4), Sum.inl (cI, 600, Sum.inl vIM)), ((g 5), Sum.inl (cI, 600, Sum.inl vIW)), ((g 6), Sum.inl (cI, 9000, Sum.inl vGoing)), ((g 7), Sum.inl (cI, 9000, Sum.inl vOut)), ((g 8), Sum.inl (cI, 6000, Sum.inl vIn)), ((g 9), Sum.inl (cI, 512, Sum.inl vSO)), ((g 10), Sum.inl (cI, 512, Sum.inl vNO)), ((g 11), Sum.inl (cI, 20000, Sum.inl vWr))] ++ mbsC cI ms) H → va_D A ([(rc, Sum.inr (6, [Value.ref co, Value.ref ma, Value.int (nI ms.length), Value.int (nI its.length), Value.int 0, Value.int frd, Value.int fbd, Value.int fir])), (ma, Sum.inl (cM, 8, Sum.inr (Sum.inr (Sum.inr (Sum.inr mf))))), (co, Sum.inr (5, [Value.long xx, Value.long xreadX, Value.ref soa, Value.ref sna, Value.ref swa, Value.int (nI its.length), Value.ref ri, Value.ref ro, Value.ref rw, Value.int xasked])), (ri, Sum.inr (0, [Value.int (nI is.length), Value.ref ria])), (ria, Sum.inl (cI, rik, Sum.inl rif)), (ro, Sum.inr (0, [Value.int (nI os.length), Value.ref roa])), (roa, Sum.inl (cI, rok, Sum.inl rof)), (rw, Sum.inr (0, [Value.int rwn, Value.ref rwa])), (rwa, Sum.inl (cI, rwk, Sum.inl rwf)), (soa, Sum.inl (cO, 600, Sum.inr (Sum.inr (Sum.inr (Sum.inr sof))))), (sna, Sum.inl (cI, 600, Sum.inl snf)), (swa, Sum.inl (cI, 600, Sum.inl swf)), (o, Sum.inr (9, mO g 4 fShift (nI ms.length) (nI its.length) 0 fLow fRange fCache fPend 0 (nI os.length) (nI is.length) frd fBad fIR fAsk fBAsk fCode fRL fRR fX fWrites fThrown)), ((g 0), Sum.inl (cI, 8, Sum.inl vMany)), ((g 1), Sum.inl (cI, 512, Sum.inl vCounts)), ((g 2), Sum.inl (cI, 512, Sum.inl vNow)), ((g 3), Sum.inl (cI, 512, Sum.inl vThen)), ((g 4), Sum.inl (cI, 600, Sum.inl vIM)), ((g 5), Sum.inl (cI, 600, Sum.inl vIW)), ((g 6), Sum.inl (cI, 9000, Sum.inl vGoing)), ((g 7), Sum.inl (cI, 9000, Sum.inl vOut)), ((g 8), Sum.inl (cI, 6000, Sum.inl vIn)), ((g 9), Sum.inl (cI, 512, Sum.inl vSO)), ((g 10), Sum.inl (cI, 512, Sum.inl vNO)), ((g 11), Sum.inl (cI, 20000, Sum.inl vWr))] ++ mbsC cI ms) → (ms.length ≤ 8) → (mfOk mf ms) → (∀ x ∈ ms, mbOk x) → (rOk (nI is.length) rik) → (rOk (nI os.length) rok) → (rOk rwn rwk) → (MD ms.length N vMany vCounts) → (∀ (j : Nat) (x : MB), ms[j]? = some x → mT_Table (N j) vCounts vNow j x) → (TB 4 ms.length N vThen) → (gIs rif is) → (gIs vIn is) → (is.length ≤ 6000) → (oct is) → (gIs rof os) → (gIs vOut os) → (os.length ≤ 6000) → (oct os) → (¬ frd = 0 → fBad = 0 → RD4 cn fAsk fBAsk fX) → (dd + (rPh rik + rPh rok + rPh rwk) + 1600 * (8 - ms.length) ≤ 300000) → (its.length ≤ 600) → (itIs vIM vIW its) → (∀ i, i < its.length → itOk 512 9 ms.length N vNow (itA its i)) → (∀ i, i < its.length → kI ms sof snf swf i (itA its i)) → C9) → C9
def EN_Table (dC : Nat → ClassId) (dI : Nat → Nat → Nat) (cI cM cO : ClassId) (A : Nat → Prop) (rc o cn dd : Nat) (H : Heap) : Prop := ∀ (C9 : Prop), (∀ (ms : List MB) (is : List Nat) (os : List Nat) (fit : Int32) (fen : Int32) (frd : Int32) (fbd : Int32) (fir : Int32) (mf : Nat → Option Nat) (ma : Nat) (co : Nat) (xx : Int64) (xreadX : Int64) (soa : Nat) (sna : Nat) (swa : Nat) (xkept : Int32) (ri : Nat) (ro : Nat) (rw : Nat) (xasked : Int32) (ria : Nat) (rik : Nat) (rif : Nat → Int32) (roa : Nat) (rok : Nat) (rof : Nat → Int32) (rwn : Int32) (rwa : Nat) (rwk : Nat) (rwf : Nat → Int32) (sof : Nat → Option Nat) (snf : Nat → Int32) (swf : Nat → Int32) (g : Nat → Nat) (fShift : Int32) (fLow : Int64) (fRange : Int64) (fCache : Int32) (fPend : Int32) (fGoes : Int32) (fBad : Int32) (fIR : Int32) (fAsk : Int32) (fBAsk : Int32) (fCode : Int64) (fRL : Int64) (fRR : Int64) (fX : Int64) (fWrites : Int32) (fThrown : Int32) (vMany : Nat → Int32) (vCounts : Nat → Int32) (vNow : Nat → Int32) (vThen : Nat → Int32) (vIM : Nat → Int32) (vIW : Nat → Int32) (vGoing : Nat → Int32) (vOut : Nat → Int32) (vIn : Nat → Int32) (vSO : Nat → Int32) (vNO : Nat → Int32) (vWr : Nat → Int32) (N : Nat → Nat), va_P (dC, dI) vwCl ([(rc, Sum.inr (6, [Value.ref co, Value.ref ma, Value.int (nI ms.length), Value.int fit, Value.int fen, Value.int frd, Value.int fbd, Value.int fir])), (ma, Sum.inl (cM, 8, Sum.inr (Sum.inr (Sum.inr (Sum.inr mf))))), (co, Sum.inr (5, [Value.long xx, Value.long xreadX, Value.ref soa, Value.ref sna, Value.ref swa, Value.int xkept, Value.ref ri, Value.ref ro, Value.ref rw, Value.int xasked])), (ri, Sum.inr (0, [Value.int (nI is.length), Value.ref ria])), (ria, Sum.inl (cI, rik, Sum.inl rif)), (ro, Sum.inr (0, [Value.int (nI os.length), Value.ref roa])), (roa, Sum.inl (cI, rok, Sum.inl rof)), (rw, Sum.inr (0, [Value.int rwn, Value.ref rwa])), (rwa, Sum.inl (cI, rwk, Sum.inl rwf)), (soa, Sum.inl (cO, 600, Sum.inr (Sum.inr (Sum.inr (Sum.inr sof))))), (sna, Sum.inl (cI, 600, Sum.inl snf)), (swa, Sum.inl (cI, 600, Sum.inl swf)), (o, Sum.inr (9, mO g 4 fShift (nI ms.length) fit fen fLow fRange fCache fPend fGoes (nI os.length) (nI is.length) frd fBad fIR fAsk fBAsk fCode fRL fRR fX fWrites fThrown)), ((g 0), Sum.inl (cI, 8, Sum.inl vMany)), ((g 1), Sum.inl (cI, 512, Sum.inl vCounts)), ((g 2), Sum.inl (cI, 512, Sum.inl vNow)), ((g 3), Sum.inl (cI, 512, Sum.inl vThen)), ((g 4), Sum.inl (cI, 600, Sum.inl vIM)), ((g 5), Sum.inl (cI, 600, Sum.inl vIW)), ((g 6), Sum.inl (cI, 9000, Sum.inl vGoing)), ((g 7), Sum.inl (cI, 9000, Sum.inl vOut)), ((g 8), Sum.inl (cI, 6000, Sum.inl vIn)), ((g 9), Sum.inl (cI, 512, Sum.inl vSO)), ((g 10), Sum.inl (cI, 512, Sum.inl vNO)), ((g 11), Sum.inl (cI, 20000, Sum.inl vWr))] ++ mbsC cI ms) H → va_D A ([(rc, Sum.inr (6, [Value.ref co, Value.ref ma, Value.int (nI ms.length), Value.int fit, Value.int fen, Value.int frd, Value.int fbd, Value.int fir])), (ma, Sum.inl (cM, 8, Sum.inr (Sum.inr (Sum.inr (Sum.inr mf))))), (co, Sum.inr (5, [Value.long xx, Value.long xreadX, Value.ref soa, Value.ref sna, Value.ref swa, Value.int xkept, Value.ref ri, Value.ref ro, Value.ref rw, Value.int xasked])), (ri, Sum.inr (0, [Value.int (nI is.length), Value.ref ria])), (ria, Sum.inl (cI, rik, Sum.inl rif)), (ro, Sum.inr (0, [Value.int (nI os.length), Value.ref roa])), (roa, Sum.inl (cI, rok, Sum.inl rof)), (rw, Sum.inr (0, [Value.int rwn, Value.ref rwa])), (rwa, Sum.inl (cI, rwk, Sum.inl rwf)), (soa, Sum.inl (cO, 600, Sum.inr (Sum.inr (Sum.inr (Sum.inr sof))))), (sna, Sum.inl (cI, 600, Sum.inl snf)), (swa, Sum.inl (cI, 600, Sum.inl swf)), (o, Sum.inr (9, mO g 4 fShift (nI ms.length) fit fen fLow fRange fCache fPend fGoes (nI os.length) (nI is.length) frd fBad fIR fAsk fBAsk fCode fRL fRR fX fWrites fThrown)), ((g 0), Sum.inl (cI, 8, Sum.inl vMany)), ((g 1), Sum.inl (cI, 512, Sum.inl vCounts)), ((g 2), Sum.inl (cI, 512, Sum.inl vNow)), ((g 3), Sum.inl (cI, 512, Sum.inl vThen)), ((g 4), Sum.inl (cI, 600, Sum.inl vIM)), ((g 5), Sum.inl (cI, 600, Sum.inl vIW)), ((g 6), Sum.inl (cI, 9000, Sum.inl vGoing)), ((g 7), Sum.inl (cI, 9000, Sum.inl vOut)), ((g 8), Sum.inl (cI, 6000, Sum.inl vIn)), ((g 9), Sum.inl (cI, 512, Sum.inl vSO)), ((g 10), Sum.inl (cI, 512, Sum.inl vNO)), ((g 11), Sum.inl (cI, 20000, Sum.inl vWr))] ++ mbsC cI ms) → (ms.length ≤ 8) → (mfOk mf ms) → (∀ x ∈ ms, mbOk x) → (rOk (nI is.length) rik) → (rOk (nI os.length) rok) → (rOk rwn rwk) → (MD ms.length N vMany vCounts) → (∀ (j : Nat) (x : MB), ms[j]? = some x → mT_Table (N j) vCounts vNow j x) → (TB 4 ms.length N vThen) → (gIs rif is) → (gIs vIn is) → (is.length ≤ 6000) → (oct is) → (gIs rof os) → (gIs vOut os) → (os.length ≤ 6000) → (oct os) → (¬ frd = 0 → fBad = 0 → RD4 cn fAsk fBAsk fX) → (dd + (rPh rik + rPh rok + rPh rwk) + 1600 * (8 - ms.length) ≤ 300000) → (¬ fen = 0) → C9) → C9
set_option maxHeartbeats 4000000 in
theorem LI_split_Table {dC : Nat → ClassId} {dI : Nat → Nat → Nat} {cI cM cO : ClassId} {A : Nat → Prop} {rc o cn dd : Nat} {H : Heap} (h : LI_Table dC dI cI cM cO A rc o cn dd H) {C9 : Prop} (k1 : LV_Table dC dI cI cM cO A rc o cn dd H → C9) (k2 : EN_Table dC dI cI cM cO A rc o cn dd H → C9) : C9 := by
  refine h _ ?_
  intro ms is os fit fen frd fbd fir mf ma co xx xreadX soa sna swa xkept ri ro rw xasked ria rik rif roa rok rof rwn rwa rwk rwf sof snf swf g fShift fLow fRange fCache fPend fGoes fBad fIR fAsk fBAsk fCode fRL fRR fX fWrites fThrown vMany vCounts vNow vThen vIM vIW vGoing vOut vIn vSO vNO vWr N hP hD hk8 hmf hmo hri hro hrw hMD hmt hU hMS hIr hIm hI6 hIo hOr hOm hO6 hOo hRD hdd
  by_cases hfe : fen = 0
  · obtain ⟨its, hki, rfl, rfl, rfl, hit, hok, hkI⟩ := hMS hfe
    subst hfe
    exact k1 (fun C8 k8 => k8 ms is os frd fbd fir mf ma co xx xreadX soa sna swa ri ro rw xasked ria rik rif roa rok rof rwn rwa rwk rwf sof snf swf g fShift fLow fRange fCache fPend fBad fIR fAsk fBAsk fCode fRL fRR fX fWrites fThrown vMany vCounts vNow vThen vIM vIW vGoing vOut vIn vSO vNO vWr N its hP hD hk8 hmf hmo hri hro hrw hMD hmt hU hIr hIm hI6 hIo hOr hOm hO6 hOo hRD hdd hki hit hok hkI)
  · exact k2 (fun C8 k8 => k8 ms is os fit fen frd fbd fir mf ma co xx xreadX soa sna swa xkept ri ro rw xasked ria rik rif roa rok rof rwn rwa rwk rwf sof snf swf g fShift fLow fRange fCache fPend fGoes fBad fIR fAsk fBAsk fCode fRL fRR fX fWrites fThrown vMany vCounts vNow vThen vIM vIW vGoing vOut vIn vSO vNO vWr N hP hD hk8 hmf hmo hri hro hrw hMD hmt hU hIr hIm hI6 hIo hOr hOm hO6 hOo hRD hdd hfe)
end
section
set_option maxHeartbeats 20000000 in
set_option maxRecDepth 100000 in
theorem lc_Carries_0 {p : Program} {e : Env} {s : State} {m : MethodId} {args : Array Value} {below : List Frame} {meth : Method} {c : Code} {R : Room} {Q : State → Prop} {A : Nat → Prop} (l : Launch) (dC : Nat → ClassId) (dI : Nat → Nat → Nat) (cI cM cO : ClassId) {b L : Nat} {xs : Nat → Int32} (hx : p.tables.exec = Jvm.exec) (hb : c.code = code) (hml : c.maxLocals = 4) (hown : s.vm.findClass "RangeCodersLaw" = some m.cls) (hg : ∀ w ∈ gw, w.before args s = true) (hN : nw s) (hK : va_K (dC, dI) vwCl (kT cI cM cO) s) (hR : R = room_1) (hA : ∀ q : Nat, s.heap.size ≤ q → A q) (hX : va_X b L xs s s.heap) (hbl : b < s.heap.size) (hbA : ¬ A b) (hL : L ≤ 2050) {rc o cn dd i : Nat} (hi4 : i + 4 ≤ L) (hcn : cn ≤ 900) (kk : ∀ (dd2 : Nat) (H : Heap) (locs : List Loc) (ls : Array Slot), LI_Carries dC dI cI cM cO A rc o (cn + 1) dd2 H → va_S A s.heap H locs → lv_has ls 4 [(0, Value.ref b), (1, Value.ref rc), (2, Value.ref o), (3, Value.int (nI i))] → W p l e R s m args below meth c H locs dd2 dd2 Q (F0 m 530 ls [])) (H : Heap) (locs : List Loc) (ls : Array Slot) (hLI : LI_Carries dC dI cI cM cO A rc o cn dd H) (hS : va_S A s.heap H locs) (hl : lv_has ls 4 [(0, Value.ref b), (1, Value.ref rc), (2, Value.ref o), (3, Value.int (nI i))]) : W p l e R s m args below meth c H locs dd dd Q (F0 m 132 ls []) := by
  have hts : ∀ w ∈ (Cond.code y_M_in prog_14_method_3_code 3 (some .boolean) :: gw), w.before args s = true := List.forall_mem_cons.mpr ⟨hg _ k1064, hg⟩
  refine hLI _ ?_
  intro ms is os fit fen frd fbd fir mf ma co xcache xpending xlow xrange xcode xreadLow xreadRange ri ro rw xasked ria rik rif roa rok rof rwn rwa rwk rwf g fShift fLow fRange fCache fPend fGoes fBad fIR fAsk fBAsk fCode fRL fRR fX fWrites fThrown vMany vCounts vNow vThen vIM vIW vGoing vOut vIn vSO vNO vWr N hP hD hk8 hmf hmo hri hro hrw hMD hmt hU hMS hIr hIm hI6 hIo hOr hOm hO6 hOo hRD hdd
  refine lv_aload_n hx hb d_Law_law_132 rfl (lv_at hl 1 rfl) ?_
  refine lv_aload_n hx hb d_Law_law_133 rfl (lv_at hl 0 rfl) ?_
  refine lv_iload_n hx hb d_Law_law_134 rfl (lv_at hl 3 rfl) ?_
  refine lv_iconst (v := 1) hx hb d_Law_law_135 (by decide) ?_
  refine lv_iadd hx hb d_Law_law_136 ?_
  refine lv_topi (fun v_1 ev_1 => ?_)
  have hx_v_1 : v_1 = nI (i + 1) := by rw [ev_1]; exact nI_add i 1
  refine va_sld hx hb hX hbl hbA hS (by rw [hx_v_1]; exact vp_in_nI (by omega) (by omega)) d_Law_law_137 ?_
  rw [hx_v_1, nI_clamp (by omega)]
  rcases (show (xs (i + 1) < 2 ∨ 64 < xs (i + 1)) ∨ (∃ nS, 2 ≤ nS ∧ nS ≤ 64 ∧ xs (i + 1) = nI nS ∧ ms.length = 8) ∨ (∃ nS, 2 ≤ nS ∧ nS ≤ 64 ∧ xs (i + 1) = nI nS ∧ ¬ ms.length = 8) by rcases mo_cs (xs (i + 1)) with q | ⟨nS, q1, q2, q3⟩; exact Or.inl q; by_cases q4 : ms.length = 8; exact Or.inr (Or.inl ⟨nS, q1, q2, q3, q4⟩); exact Or.inr (Or.inr ⟨nS, q1, q2, q3, q4⟩)) with hrf | ⟨nS, hns2, hns, ens, hk⟩ | ⟨nS, hns2, hns, ens, hnk⟩
  · skip
    refine my_cit (wr := [(ri, Sum.inr (0, [Value.int (nI is.length), Value.ref ria])), (ria, Sum.inl (cI, rik, Sum.inl rif)), (ro, Sum.inr (0, [Value.int (nI os.length), Value.ref roa])), (roa, Sum.inl (cI, rok, Sum.inl rof)), (rw, Sum.inr (0, [Value.int rwn, Value.ref rwa])), (rwa, Sum.inl (cI, rwk, Sum.inl rwf)), (o, Sum.inr (9, mO g 0 fShift (nI ms.length) fit fen fLow fRange fCache fPend fGoes (nI os.length) (nI is.length) frd fBad fIR fAsk fBAsk fCode fRL fRR fX fWrites fThrown)), ((g 0), Sum.inl (cI, 8, Sum.inl vMany)), ((g 1), Sum.inl (cI, 512, Sum.inl vCounts)), ((g 2), Sum.inl (cI, 512, Sum.inl vNow)), ((g 3), Sum.inl (cI, 512, Sum.inl vThen)), ((g 4), Sum.inl (cI, 600, Sum.inl vIM)), ((g 5), Sum.inl (cI, 600, Sum.inl vIW)), ((g 6), Sum.inl (cI, 9000, Sum.inl vGoing)), ((g 7), Sum.inl (cI, 9000, Sum.inl vOut)), ((g 8), Sum.inl (cI, 6000, Sum.inl vIn)), ((g 9), Sum.inl (cI, 512, Sum.inl vSO)), ((g 10), Sum.inl (cI, 512, Sum.inl vNO)), ((g 11), Sum.inl (cI, 20000, Sum.inl vWr))]) (va_runV (As := [Value.int (xs (i + 1))]) (rest := []) ⟨hx, hb, hml, hown, hts⟩ (c_RC_modelA_Carries l dC dI cI cM cO H.size rc ma ms.length fit fen frd fbd fir mf co xcache xpending xlow xrange xcode xreadLow xreadRange ri ro rw xasked (xs (i + 1)) (by first | assumption | omega)) (cwV 1 hts (my_gV k283 k284 k285 k1 k286) rfl rfl rfl (by decide +kernel) ⟨by rw [hR]; exact Nat.le_of_ble_eq_true rfl, by rw [hR]; exact Nat.le_of_ble_eq_true rfl⟩) (my_preV hK hN (my_subU hP [0, 1, 2] rfl) (my_dubT hD [0, 1, 2] (by decide +kernel) rfl) 0 rfl rfl) rfl rfl hl.1 rfl (lv_room (Nat.le_of_ble_eq_true rfl)) d_Law_law_138 ⟨by rw [hR]; exact (show dd + 0 ≤ 600000 by omega), by rw [hR]; exact (show dd + 0 ≤ 7302250 by omega)⟩) hP hD hS hA [0, 1, 2] [3, 4, 5, 6, 7, 8, 9, 10, 11, 12, 13, 14, 15, 16, 17, 18, 19, 20, 21] rfl rfl (by decide +kernel) (by decide +kernel) (fun r_138 u9 _ _ hw_138 _ _ _ => ?_)
    clear hP hD hS
    rename_i H locs hP hD hS
    have hr_138 : r_138 = -2 := hw_138
    have hPD : my_PD (dC, dI) vwCl A ([(ri, Sum.inr (0, [Value.int (nI is.length), Value.ref ria])), (ria, Sum.inl (cI, rik, Sum.inl rif)), (ro, Sum.inr (0, [Value.int (nI os.length), Value.ref roa])), (roa, Sum.inl (cI, rok, Sum.inl rof)), (rw, Sum.inr (0, [Value.int rwn, Value.ref rwa])), (rwa, Sum.inl (cI, rwk, Sum.inl rwf)), (o, Sum.inr (9, mO g 0 fShift (nI ms.length) fit fen fLow fRange fCache fPend fGoes (nI os.length) (nI is.length) frd fBad fIR fAsk fBAsk fCode fRL fRR fX fWrites fThrown)), ((g 0), Sum.inl (cI, 8, Sum.inl vMany)), ((g 1), Sum.inl (cI, 512, Sum.inl vCounts)), ((g 2), Sum.inl (cI, 512, Sum.inl vNow)), ((g 3), Sum.inl (cI, 512, Sum.inl vThen)), ((g 4), Sum.inl (cI, 600, Sum.inl vIM)), ((g 5), Sum.inl (cI, 600, Sum.inl vIW)), ((g 6), Sum.inl (cI, 9000, Sum.inl vGoing)), ((g 7), Sum.inl (cI, 9000, Sum.inl vOut)), ((g 8), Sum.inl (cI, 6000, Sum.inl vIn)), ((g 9), Sum.inl (cI, 512, Sum.inl vSO)), ((g 10), Sum.inl (cI, 512, Sum.inl vNO)), ((g 11), Sum.inl (cI, 20000, Sum.inl vWr)), (rc, Sum.inr (6, [Value.ref co, Value.ref ma, Value.int (nI ms.length), Value.int fit, Value.int fen, Value.int frd, Value.int fbd, Value.int fir])), (ma, Sum.inl (cM, 8, Sum.inr (Sum.inr (Sum.inr (Sum.inr mf))))), (co, Sum.inr (1, [Value.int xcache, Value.int xpending, Value.long xlow, Value.long xrange, Value.long xcode, Value.long xreadLow, Value.long xreadRange, Value.ref ri, Value.ref ro, Value.ref rw, Value.int xasked]))] ++ mbsC cI ms) H := ⟨hP, hD⟩
    clear hP hD
    have hP := hPD.1
    have hD := hPD.2
    clear hPD
    refine lv_pop hx hb d_Law_law_141 rfl ?_
    refine lv_aload_n hx hb d_Law_law_142 rfl (lv_at hl 2 rfl) ?_
    refine lv_aload_n hx hb d_Law_law_143 rfl (lv_at hl 0 rfl) ?_
    refine lv_iload_n hx hb d_Law_law_144 rfl (lv_at hl 3 rfl) ?_
    refine lv_iconst (v := 1) hx hb d_Law_law_145 (by decide) ?_
    refine lv_iadd hx hb d_Law_law_146 ?_
    refine lv_topi (fun v_2 ev_2 => ?_)
    have hx_v_2 : v_2 = nI (i + 1) := by rw [ev_2]; exact nI_add i 1
    refine va_sld hx hb hX hbl hbA hS (by rw [hx_v_2]; exact vp_in_nI (by omega) (by omega)) d_Law_law_147 ?_
    rw [hx_v_2, nI_clamp (by omega)]
    refine my_cit (wr := [(ri, Sum.inr (0, [Value.int (nI is.length), Value.ref ria])), (ria, Sum.inl (cI, rik, Sum.inl rif)), (ro, Sum.inr (0, [Value.int (nI os.length), Value.ref roa])), (roa, Sum.inl (cI, rok, Sum.inl rof)), (rw, Sum.inr (0, [Value.int rwn, Value.ref rwa])), (rwa, Sum.inl (cI, rwk, Sum.inl rwf)), ((g 2), Sum.inl (cI, 512, Sum.inl vNow)), ((g 3), Sum.inl (cI, 512, Sum.inl vThen)), ((g 4), Sum.inl (cI, 600, Sum.inl vIM)), ((g 5), Sum.inl (cI, 600, Sum.inl vIW)), ((g 6), Sum.inl (cI, 9000, Sum.inl vGoing)), ((g 7), Sum.inl (cI, 9000, Sum.inl vOut)), ((g 8), Sum.inl (cI, 6000, Sum.inl vIn)), ((g 9), Sum.inl (cI, 512, Sum.inl vSO)), ((g 10), Sum.inl (cI, 512, Sum.inl vNO)), ((g 11), Sum.inl (cI, 20000, Sum.inl vWr)), (rc, Sum.inr (6, [Value.ref co, Value.ref ma, Value.int (nI ms.length), Value.int fit, Value.int fen, Value.int frd, Value.int fbd, Value.int fir])), (ma, Sum.inl (cM, 8, Sum.inr (Sum.inr (Sum.inr (Sum.inr mf))))), (co, Sum.inr (1, [Value.int xcache, Value.int xpending, Value.long xlow, Value.long xrange, Value.long xcode, Value.long xreadLow, Value.long xreadRange, Value.ref ri, Value.ref ro, Value.ref rw, Value.int xasked]))]) (va_runV (As := [Value.int (xs (i + 1))]) (rest := []) ⟨hx, hb, hml, hown, hts⟩ (c_M_modelA l dC dI cI cM cO H.size o g 0 fShift (nI ms.length) fit fen fLow fRange fCache fPend fGoes (nI os.length) (nI is.length) frd fBad fIR fAsk fBAsk fCode fRL fRR fX fWrites fThrown vMany vCounts 0 ms.length N (xs (i + 1)) (by first | rfl | rw [hlen9]) (by first | assumption | omega) (by first | assumption | omega)) (cwV 1 hts (my_gV k1058 k1059 k1060 k12 k1061) rfl rfl rfl (by decide +kernel) ⟨by rw [hR]; exact Nat.le_of_ble_eq_true rfl, by rw [hR]; exact Nat.le_of_ble_eq_true rfl⟩) (my_preV hK hN (my_subU hP [6, 7, 8] rfl) (my_dubT hD [6, 7, 8] (by decide +kernel) rfl) 0 rfl rfl) rfl rfl hl.1 rfl (lv_room (Nat.le_of_ble_eq_true rfl)) d_Law_law_148 ⟨by rw [hR]; exact (show dd + 0 ≤ 600000 by omega), by rw [hR]; exact (show dd + 0 ≤ 7302250 by omega)⟩) hP hD hS hA [6, 7, 8] [0, 1, 2, 3, 4, 5, 9, 10, 11, 12, 13, 14, 15, 16, 17, 18, 19, 20, 21] rfl rfl (by decide +kernel) (by decide +kernel) (fun r_148 u9 _ _ hw_148 _ _ _ => ?_)
    clear hP hD hS
    rename_i H locs hP hD hS
    obtain ⟨fThrownq_148, rfl⟩ : ∃ z, z = u9 := ⟨_, rfl⟩
    have hr_148 : r_148 = -2 := hw_148
    have hPD : my_PD (dC, dI) vwCl A ([(ri, Sum.inr (0, [Value.int (nI is.length), Value.ref ria])), (ria, Sum.inl (cI, rik, Sum.inl rif)), (ro, Sum.inr (0, [Value.int (nI os.length), Value.ref roa])), (roa, Sum.inl (cI, rok, Sum.inl rof)), (rw, Sum.inr (0, [Value.int rwn, Value.ref rwa])), (rwa, Sum.inl (cI, rwk, Sum.inl rwf)), ((g 2), Sum.inl (cI, 512, Sum.inl vNow)), ((g 3), Sum.inl (cI, 512, Sum.inl vThen)), ((g 4), Sum.inl (cI, 600, Sum.inl vIM)), ((g 5), Sum.inl (cI, 600, Sum.inl vIW)), ((g 6), Sum.inl (cI, 9000, Sum.inl vGoing)), ((g 7), Sum.inl (cI, 9000, Sum.inl vOut)), ((g 8), Sum.inl (cI, 6000, Sum.inl vIn)), ((g 9), Sum.inl (cI, 512, Sum.inl vSO)), ((g 10), Sum.inl (cI, 512, Sum.inl vNO)), ((g 11), Sum.inl (cI, 20000, Sum.inl vWr)), (rc, Sum.inr (6, [Value.ref co, Value.ref ma, Value.int (nI ms.length), Value.int fit, Value.int fen, Value.int frd, Value.int fbd, Value.int fir])), (ma, Sum.inl (cM, 8, Sum.inr (Sum.inr (Sum.inr (Sum.inr mf))))), (co, Sum.inr (1, [Value.int xcache, Value.int xpending, Value.long xlow, Value.long xrange, Value.long xcode, Value.long xreadLow, Value.long xreadRange, Value.ref ri, Value.ref ro, Value.ref rw, Value.int xasked])), (o, Sum.inr (9, mO g 0 fShift (nI ms.length) fit fen fLow fRange fCache fPend fGoes (nI os.length) (nI is.length) frd fBad fIR fAsk fBAsk fCode fRL fRR fX fWrites fThrownq_148)), ((g 0), Sum.inl (cI, 8, Sum.inl vMany)), ((g 1), Sum.inl (cI, 512, Sum.inl vCounts))] ++ mbsC cI ms) H := ⟨hP, hD⟩
    clear hP hD
    have hP := hPD.1
    have hD := hPD.2
    clear hPD
    refine lv_pop hx hb d_Law_law_151 rfl ?_
    refine lv_goto (tgt := 530) hx hb d_Law_law_152 (by decide) ?_
    exact kk dd H locs ls (fun C9 k9 => k9 (ms) (is) (os) (fit) (fen) (frd) (fbd) (fir) (mf) (ma) (co) (xcache) (xpending) (xlow) (xrange) (xcode) (xreadLow) (xreadRange) (ri) (ro) (rw) (xasked) (ria) (rik) (rif) (roa) (rok) (rof) (rwn) (rwa) (rwk) (rwf) (g) (fShift) (fLow) (fRange) (fCache) (fPend) (fGoes) (fBad) (fIR) (fAsk) (fBAsk) (fCode) (fRL) (fRR) (fX) (fWrites) (fThrownq_148) (vMany) (vCounts) (vNow) (vThen) (vIM) (vIW) (vGoing) (vOut) (vIn) (vSO) (vNO) (vWr) (N) (my_partU hP [16, 17, 18, 0, 1, 2, 3, 4, 5, 19, 20, 21, 6, 7, 8, 9, 10, 11, 12, 13, 14, 15] rfl) (hD.part [16, 17, 18, 0, 1, 2, 3, 4, 5, 19, 20, 21, 6, 7, 8, 9, 10, 11, 12, 13, 14, 15] (by decide +kernel) rfl) (hk8) (hmf) (hmo) (hri) (hro) (hrw) (hMD) (hmt) (hU) (hMS) (hIr) (hIm) (hI6) (hIo) (hOr) (hOm) (hO6) (hOo) (fun z1 z2 => RD0_up (hRD z1 z2)) (by omega)) hS (lv_sub hl [0, 1, 2, 3] rfl)
  · skip
    refine W.eq (g2 := F0 m 138 ls [Value.int (nI nS), Value.ref rc]) (by rw [ens]) ?_
    refine my_cit (wr := [(ri, Sum.inr (0, [Value.int (nI is.length), Value.ref ria])), (ria, Sum.inl (cI, rik, Sum.inl rif)), (ro, Sum.inr (0, [Value.int (nI os.length), Value.ref roa])), (roa, Sum.inl (cI, rok, Sum.inl rof)), (rw, Sum.inr (0, [Value.int rwn, Value.ref rwa])), (rwa, Sum.inl (cI, rwk, Sum.inl rwf)), (o, Sum.inr (9, mO g 0 fShift (nI ms.length) fit fen fLow fRange fCache fPend fGoes (nI os.length) (nI is.length) frd fBad fIR fAsk fBAsk fCode fRL fRR fX fWrites fThrown)), ((g 0), Sum.inl (cI, 8, Sum.inl vMany)), ((g 1), Sum.inl (cI, 512, Sum.inl vCounts)), ((g 2), Sum.inl (cI, 512, Sum.inl vNow)), ((g 3), Sum.inl (cI, 512, Sum.inl vThen)), ((g 4), Sum.inl (cI, 600, Sum.inl vIM)), ((g 5), Sum.inl (cI, 600, Sum.inl vIW)), ((g 6), Sum.inl (cI, 9000, Sum.inl vGoing)), ((g 7), Sum.inl (cI, 9000, Sum.inl vOut)), ((g 8), Sum.inl (cI, 6000, Sum.inl vIn)), ((g 9), Sum.inl (cI, 512, Sum.inl vSO)), ((g 10), Sum.inl (cI, 512, Sum.inl vNO)), ((g 11), Sum.inl (cI, 20000, Sum.inl vWr))]) (va_runV (As := [Value.int (nI nS)]) (rest := []) ⟨hx, hb, hml, hown, hts⟩ (c_RC_modelF_Carries l dC dI cI cM cO H.size rc ma ms.length fit fen frd fbd fir mf co xcache xpending xlow xrange xcode xreadLow xreadRange ri ro rw xasked nS (by first | assumption | omega) (by first | assumption | omega) (hk)) (cwV 1 hts (my_gV k283 k284 k285 k1 k286) rfl rfl rfl (by decide +kernel) ⟨by rw [hR]; exact Nat.le_of_ble_eq_true rfl, by rw [hR]; exact Nat.le_of_ble_eq_true rfl⟩) (my_preV hK hN (my_subU hP [0, 1, 2] rfl) (my_dubT hD [0, 1, 2] (by decide +kernel) rfl) 0 rfl rfl) rfl rfl hl.1 rfl (lv_room (Nat.le_of_ble_eq_true rfl)) d_Law_law_138 ⟨by rw [hR]; exact (show dd + 0 ≤ 600000 by omega), by rw [hR]; exact (show dd + 0 ≤ 7302250 by omega)⟩) hP hD hS hA [0, 1, 2] [3, 4, 5, 6, 7, 8, 9, 10, 11, 12, 13, 14, 15, 16, 17, 18, 19, 20, 21] rfl rfl (by decide +kernel) (by decide +kernel) (fun r_138 u9 _ _ hw_138 _ _ _ => ?_)
    clear hP hD hS
    rename_i H locs hP hD hS
    have hr_138 : r_138 = -4 := hw_138
    have hPD : my_PD (dC, dI) vwCl A ([(ri, Sum.inr (0, [Value.int (nI is.length), Value.ref ria])), (ria, Sum.inl (cI, rik, Sum.inl rif)), (ro, Sum.inr (0, [Value.int (nI os.length), Value.ref roa])), (roa, Sum.inl (cI, rok, Sum.inl rof)), (rw, Sum.inr (0, [Value.int rwn, Value.ref rwa])), (rwa, Sum.inl (cI, rwk, Sum.inl rwf)), (o, Sum.inr (9, mO g 0 fShift (nI ms.length) fit fen fLow fRange fCache fPend fGoes (nI os.length) (nI is.length) frd fBad fIR fAsk fBAsk fCode fRL fRR fX fWrites fThrown)), ((g 0), Sum.inl (cI, 8, Sum.inl vMany)), ((g 1), Sum.inl (cI, 512, Sum.inl vCounts)), ((g 2), Sum.inl (cI, 512, Sum.inl vNow)), ((g 3), Sum.inl (cI, 512, Sum.inl vThen)), ((g 4), Sum.inl (cI, 600, Sum.inl vIM)), ((g 5), Sum.inl (cI, 600, Sum.inl vIW)), ((g 6), Sum.inl (cI, 9000, Sum.inl vGoing)), ((g 7), Sum.inl (cI, 9000, Sum.inl vOut)), ((g 8), Sum.inl (cI, 6000, Sum.inl vIn)), ((g 9), Sum.inl (cI, 512, Sum.inl vSO)), ((g 10), Sum.inl (cI, 512, Sum.inl vNO)), ((g 11), Sum.inl (cI, 20000, Sum.inl vWr)), (rc, Sum.inr (6, [Value.ref co, Value.ref ma, Value.int (nI ms.length), Value.int fit, Value.int fen, Value.int frd, Value.int fbd, Value.int fir])), (ma, Sum.inl (cM, 8, Sum.inr (Sum.inr (Sum.inr (Sum.inr mf))))), (co, Sum.inr (1, [Value.int xcache, Value.int xpending, Value.long xlow, Value.long xrange, Value.long xcode, Value.long xreadLow, Value.long xreadRange, Value.ref ri, Value.ref ro, Value.ref rw, Value.int xasked]))] ++ mbsC cI ms) H := ⟨hP, hD⟩
    clear hP hD
    have hP := hPD.1
    have hD := hPD.2
    clear hPD
    refine lv_pop hx hb d_Law_law_141 rfl ?_
    refine lv_aload_n hx hb d_Law_law_142 rfl (lv_at hl 2 rfl) ?_
    refine lv_aload_n hx hb d_Law_law_143 rfl (lv_at hl 0 rfl) ?_
    refine lv_iload_n hx hb d_Law_law_144 rfl (lv_at hl 3 rfl) ?_
    refine lv_iconst (v := 1) hx hb d_Law_law_145 (by decide) ?_
    refine lv_iadd hx hb d_Law_law_146 ?_
    refine lv_topi (fun v_3 ev_3 => ?_)
    have hx_v_3 : v_3 = nI (i + 1) := by rw [ev_3]; exact nI_add i 1
    refine va_sld hx hb hX hbl hbA hS (by rw [hx_v_3]; exact vp_in_nI (by omega) (by omega)) d_Law_law_147 ?_
    rw [hx_v_3, nI_clamp (by omega)]
    refine W.eq (g2 := F0 m 148 ls [Value.int (nI nS), Value.ref o]) (by rw [ens]) ?_
    refine my_cit (wr := [(ri, Sum.inr (0, [Value.int (nI is.length), Value.ref ria])), (ria, Sum.inl (cI, rik, Sum.inl rif)), (ro, Sum.inr (0, [Value.int (nI os.length), Value.ref roa])), (roa, Sum.inl (cI, rok, Sum.inl rof)), (rw, Sum.inr (0, [Value.int rwn, Value.ref rwa])), (rwa, Sum.inl (cI, rwk, Sum.inl rwf)), ((g 2), Sum.inl (cI, 512, Sum.inl vNow)), ((g 3), Sum.inl (cI, 512, Sum.inl vThen)), ((g 4), Sum.inl (cI, 600, Sum.inl vIM)), ((g 5), Sum.inl (cI, 600, Sum.inl vIW)), ((g 6), Sum.inl (cI, 9000, Sum.inl vGoing)), ((g 7), Sum.inl (cI, 9000, Sum.inl vOut)), ((g 8), Sum.inl (cI, 6000, Sum.inl vIn)), ((g 9), Sum.inl (cI, 512, Sum.inl vSO)), ((g 10), Sum.inl (cI, 512, Sum.inl vNO)), ((g 11), Sum.inl (cI, 20000, Sum.inl vWr)), (rc, Sum.inr (6, [Value.ref co, Value.ref ma, Value.int (nI ms.length), Value.int fit, Value.int fen, Value.int frd, Value.int fbd, Value.int fir])), (ma, Sum.inl (cM, 8, Sum.inr (Sum.inr (Sum.inr (Sum.inr mf))))), (co, Sum.inr (1, [Value.int xcache, Value.int xpending, Value.long xlow, Value.long xrange, Value.long xcode, Value.long xreadLow, Value.long xreadRange, Value.ref ri, Value.ref ro, Value.ref rw, Value.int xasked]))]) (va_runV (As := [Value.int (nI nS)]) (rest := []) ⟨hx, hb, hml, hown, hts⟩ (c_M_modelF l dC dI cI cM cO H.size o g 0 fShift (nI ms.length) fit fen fLow fRange fCache fPend fGoes (nI os.length) (nI is.length) frd fBad fIR fAsk fBAsk fCode fRL fRR fX fWrites fThrown vMany vCounts 0 ms.length N nS (by first | rfl | rw [hlen9]) (by first | assumption | omega) (by first | assumption | omega) (by first | assumption | omega) (hk)) (cwV 1 hts (my_gV k1058 k1059 k1060 k12 k1061) rfl rfl rfl (by decide +kernel) ⟨by rw [hR]; exact Nat.le_of_ble_eq_true rfl, by rw [hR]; exact Nat.le_of_ble_eq_true rfl⟩) (my_preV hK hN (my_subU hP [6, 7, 8] rfl) (my_dubT hD [6, 7, 8] (by decide +kernel) rfl) 0 rfl rfl) rfl rfl hl.1 rfl (lv_room (Nat.le_of_ble_eq_true rfl)) d_Law_law_148 ⟨by rw [hR]; exact (show dd + 0 ≤ 600000 by omega), by rw [hR]; exact (show dd + 0 ≤ 7302250 by omega)⟩) hP hD hS hA [6, 7, 8] [0, 1, 2, 3, 4, 5, 9, 10, 11, 12, 13, 14, 15, 16, 17, 18, 19, 20, 21] rfl rfl (by decide +kernel) (by decide +kernel) (fun r_148 u9 _ _ hw_148 _ _ _ => ?_)
    clear hP hD hS
    rename_i H locs hP hD hS
    obtain ⟨fThrownq_148, rfl⟩ : ∃ z, z = u9 := ⟨_, rfl⟩
    have hr_148 : r_148 = -4 := hw_148
    have hPD : my_PD (dC, dI) vwCl A ([(ri, Sum.inr (0, [Value.int (nI is.length), Value.ref ria])), (ria, Sum.inl (cI, rik, Sum.inl rif)), (ro, Sum.inr (0, [Value.int (nI os.length), Value.ref roa])), (roa, Sum.inl (cI, rok, Sum.inl rof)), (rw, Sum.inr (0, [Value.int rwn, Value.ref rwa])), (rwa, Sum.inl (cI, rwk, Sum.inl rwf)), ((g 2), Sum.inl (cI, 512, Sum.inl vNow)), ((g 3), Sum.inl (cI, 512, Sum.inl vThen)), ((g 4), Sum.inl (cI, 600, Sum.inl vIM)), ((g 5), Sum.inl (cI, 600, Sum.inl vIW)), ((g 6), Sum.inl (cI, 9000, Sum.inl vGoing)), ((g 7), Sum.inl (cI, 9000, Sum.inl vOut)), ((g 8), Sum.inl (cI, 6000, Sum.inl vIn)), ((g 9), Sum.inl (cI, 512, Sum.inl vSO)), ((g 10), Sum.inl (cI, 512, Sum.inl vNO)), ((g 11), Sum.inl (cI, 20000, Sum.inl vWr)), (rc, Sum.inr (6, [Value.ref co, Value.ref ma, Value.int (nI ms.length), Value.int fit, Value.int fen, Value.int frd, Value.int fbd, Value.int fir])), (ma, Sum.inl (cM, 8, Sum.inr (Sum.inr (Sum.inr (Sum.inr mf))))), (co, Sum.inr (1, [Value.int xcache, Value.int xpending, Value.long xlow, Value.long xrange, Value.long xcode, Value.long xreadLow, Value.long xreadRange, Value.ref ri, Value.ref ro, Value.ref rw, Value.int xasked])), (o, Sum.inr (9, mO g 0 fShift (nI ms.length) fit fen fLow fRange fCache fPend fGoes (nI os.length) (nI is.length) frd fBad fIR fAsk fBAsk fCode fRL fRR fX fWrites fThrownq_148)), ((g 0), Sum.inl (cI, 8, Sum.inl vMany)), ((g 1), Sum.inl (cI, 512, Sum.inl vCounts))] ++ mbsC cI ms) H := ⟨hP, hD⟩
    clear hP hD
    have hP := hPD.1
    have hD := hPD.2
    clear hPD
    refine lv_pop hx hb d_Law_law_151 rfl ?_
    refine lv_goto (tgt := 530) hx hb d_Law_law_152 (by decide) ?_
    exact kk dd H locs ls (fun C9 k9 => k9 (ms) (is) (os) (fit) (fen) (frd) (fbd) (fir) (mf) (ma) (co) (xcache) (xpending) (xlow) (xrange) (xcode) (xreadLow) (xreadRange) (ri) (ro) (rw) (xasked) (ria) (rik) (rif) (roa) (rok) (rof) (rwn) (rwa) (rwk) (rwf) (g) (fShift) (fLow) (fRange) (fCache) (fPend) (fGoes) (fBad) (fIR) (fAsk) (fBAsk) (fCode) (fRL) (fRR) (fX) (fWrites) (fThrownq_148) (vMany) (vCounts) (vNow) (vThen) (vIM) (vIW) (vGoing) (vOut) (vIn) (vSO) (vNO) (vWr) (N) (my_partU hP [16, 17, 18, 0, 1, 2, 3, 4, 5, 19, 20, 21, 6, 7, 8, 9, 10, 11, 12, 13, 14, 15] rfl) (hD.part [16, 17, 18, 0, 1, 2, 3, 4, 5, 19, 20, 21, 6, 7, 8, 9, 10, 11, 12, 13, 14, 15] (by decide +kernel) rfl) (hk8) (hmf) (hmo) (hri) (hro) (hrw) (hMD) (hmt) (hU) (hMS) (hIr) (hIm) (hI6) (hIo) (hOr) (hOm) (hO6) (hOo) (fun z1 z2 => RD0_up (hRD z1 z2)) (by omega)) hS (lv_sub hl [0, 1, 2, 3] rfl)
  · have hk7 : ms.length < 8 := by omega
    refine W.eq (g2 := F0 m 138 ls [Value.int (nI nS), Value.ref rc]) (by rw [ens]) ?_
    refine my_cigt (wr := [(ri, Sum.inr (0, [Value.int (nI is.length), Value.ref ria])), (ria, Sum.inl (cI, rik, Sum.inl rif)), (ro, Sum.inr (0, [Value.int (nI os.length), Value.ref roa])), (roa, Sum.inl (cI, rok, Sum.inl rof)), (rw, Sum.inr (0, [Value.int rwn, Value.ref rwa])), (rwa, Sum.inl (cI, rwk, Sum.inl rwf)), (o, Sum.inr (9, mO g 0 fShift (nI ms.length) fit fen fLow fRange fCache fPend fGoes (nI os.length) (nI is.length) frd fBad fIR fAsk fBAsk fCode fRL fRR fX fWrites fThrown)), ((g 0), Sum.inl (cI, 8, Sum.inl vMany)), ((g 1), Sum.inl (cI, 512, Sum.inl vCounts)), ((g 2), Sum.inl (cI, 512, Sum.inl vNow)), ((g 3), Sum.inl (cI, 512, Sum.inl vThen)), ((g 4), Sum.inl (cI, 600, Sum.inl vIM)), ((g 5), Sum.inl (cI, 600, Sum.inl vIW)), ((g 6), Sum.inl (cI, 9000, Sum.inl vGoing)), ((g 7), Sum.inl (cI, 9000, Sum.inl vOut)), ((g 8), Sum.inl (cI, 6000, Sum.inl vIn)), ((g 9), Sum.inl (cI, 512, Sum.inl vSO)), ((g 10), Sum.inl (cI, 512, Sum.inl vNO)), ((g 11), Sum.inl (cI, 20000, Sum.inl vWr))]) (va_runV (As := [Value.int (nI nS)]) (rest := []) ⟨hx, hb, hml, hown, hts⟩ (f_RC_modelB_Carries l dC dI cI cM cO H.size (hSl H) rc ma ms.length fit fen frd fbd fir mf co xcache xpending xlow xrange xcode xreadLow xreadRange ri ro rw xasked nS (by first | assumption | omega) (by first | assumption | omega) (hk7)) (cwV 1 hts (my_gV k283 k284 k285 k1 k286) rfl rfl rfl (by decide +kernel) ⟨by rw [hR]; exact Nat.le_of_ble_eq_true rfl, by rw [hR]; exact Nat.le_of_ble_eq_true rfl⟩) (my_preVg hK hN (my_subU hP [0, 1, 2] rfl) (my_dubT hD [0, 1, 2] (by decide +kernel) rfl) 0 rfl rfl) rfl rfl hl.1 rfl (lv_room (Nat.le_of_ble_eq_true rfl)) d_Law_law_138 ⟨by rw [hR]; exact (show dd + 1600 ≤ 600000 by omega), by rw [hR]; exact (show dd + 1600 ≤ 7302250 by omega)⟩) hP hD hS hA [0, 1, 2] [3, 4, 5, 6, 7, 8, 9, 10, 11, 12, 13, 14, 15, 16, 17, 18, 19, 20, 21] rfl rfl (by decide +kernel) (by decide +kernel) (fun r_138 u9 d_138 _ _ hd_138 hw_138 _ _ _ => ?_)
    clear hP hD hS
    rename_i H locs hP hD hS
    obtain ⟨zq_138, zk_138, zkf_138, aao_138, aaca_138, aapa_138, aacf_138, bbo_138, bbca_138, bbpa_138, bbcf_138⟩ := u9
    obtain ⟨hr_138, hkf_138, haa_138, hbb_138⟩ : r_138 = nI ms.length ∧ tbI zkf_138 nS (fun _ => 1) ∧ tbI aacf_138 nS (les nS (fun _ => 1)) ∧ tbI bbcf_138 nS (les nS (fun _ => 1)) := hw_138
    have hd_138 : d_138 + 0 ≤ 1600 := hd_138
    have hPD : my_PD (dC, dI) vwCl A ([(ri, Sum.inr (0, [Value.int (nI is.length), Value.ref ria])), (ria, Sum.inl (cI, rik, Sum.inl rif)), (ro, Sum.inr (0, [Value.int (nI os.length), Value.ref roa])), (roa, Sum.inl (cI, rok, Sum.inl rof)), (rw, Sum.inr (0, [Value.int rwn, Value.ref rwa])), (rwa, Sum.inl (cI, rwk, Sum.inl rwf)), (o, Sum.inr (9, mO g 0 fShift (nI ms.length) fit fen fLow fRange fCache fPend fGoes (nI os.length) (nI is.length) frd fBad fIR fAsk fBAsk fCode fRL fRR fX fWrites fThrown)), ((g 0), Sum.inl (cI, 8, Sum.inl vMany)), ((g 1), Sum.inl (cI, 512, Sum.inl vCounts)), ((g 2), Sum.inl (cI, 512, Sum.inl vNow)), ((g 3), Sum.inl (cI, 512, Sum.inl vThen)), ((g 4), Sum.inl (cI, 600, Sum.inl vIM)), ((g 5), Sum.inl (cI, 600, Sum.inl vIW)), ((g 6), Sum.inl (cI, 9000, Sum.inl vGoing)), ((g 7), Sum.inl (cI, 9000, Sum.inl vOut)), ((g 8), Sum.inl (cI, 6000, Sum.inl vIn)), ((g 9), Sum.inl (cI, 512, Sum.inl vSO)), ((g 10), Sum.inl (cI, 512, Sum.inl vNO)), ((g 11), Sum.inl (cI, 20000, Sum.inl vWr)), (rc, Sum.inr (6, [Value.ref co, Value.ref ma, Value.int (nI (ms.length + 1)), Value.int fit, Value.int fen, Value.int frd, Value.int fbd, Value.int fir])), (ma, Sum.inl (cM, 8, Sum.inr (Sum.inr (Sum.inr (Sum.inr (va_up mf ms.length (some zq_138))))))), (co, Sum.inr (1, [Value.int xcache, Value.int xpending, Value.long xlow, Value.long xrange, Value.long xcode, Value.long xreadLow, Value.long xreadRange, Value.ref ri, Value.ref ro, Value.ref rw, Value.int xasked])), (zq_138, Sum.inr (8, [Value.ref zk_138, Value.ref aao_138, Value.ref bbo_138])), (zk_138, Sum.inl (cI, nS, Sum.inl zkf_138)), (aao_138, Sum.inr (7, [Value.int (nI nS), Value.int (nI (ns (les nS (fun _ => 1)) nS)), Value.int 0, Value.ref aaca_138, Value.ref aapa_138])), (aaca_138, Sum.inl (cI, nS, Sum.inl aacf_138)), (aapa_138, Sum.inl (cI, 0, Sum.inl (fun _ => 0))), (bbo_138, Sum.inr (7, [Value.int (nI nS), Value.int (nI (ns (les nS (fun _ => 1)) nS)), Value.int 0, Value.ref bbca_138, Value.ref bbpa_138])), (bbca_138, Sum.inl (cI, nS, Sum.inl bbcf_138)), (bbpa_138, Sum.inl (cI, 0, Sum.inl (fun _ => 0)))] ++ mbsC cI ms) H := ⟨hP, hD⟩
    clear hP hD
    have hP := hPD.1
    have hD := hPD.2
    clear hPD
    replace hP := pm_P (my_partU hP [0, 1, 2, 3, 4, 5, 6, 7, 8, 9, 10, 11, 12, 13, 14, 15, 16, 17, 18, 19, 20, 21, 22, 23, 24, 25, 26, 27, 28, 29] rfl : va_P (dC, dI) vwCl ([(ri, Sum.inr (0, [Value.int (nI is.length), Value.ref ria])), (ria, Sum.inl (cI, rik, Sum.inl rif)), (ro, Sum.inr (0, [Value.int (nI os.length), Value.ref roa])), (roa, Sum.inl (cI, rok, Sum.inl rof)), (rw, Sum.inr (0, [Value.int rwn, Value.ref rwa])), (rwa, Sum.inl (cI, rwk, Sum.inl rwf)), (o, Sum.inr (9, mO g 0 fShift (nI ms.length) fit fen fLow fRange fCache fPend fGoes (nI os.length) (nI is.length) frd fBad fIR fAsk fBAsk fCode fRL fRR fX fWrites fThrown)), ((g 0), Sum.inl (cI, 8, Sum.inl vMany)), ((g 1), Sum.inl (cI, 512, Sum.inl vCounts)), ((g 2), Sum.inl (cI, 512, Sum.inl vNow)), ((g 3), Sum.inl (cI, 512, Sum.inl vThen)), ((g 4), Sum.inl (cI, 600, Sum.inl vIM)), ((g 5), Sum.inl (cI, 600, Sum.inl vIW)), ((g 6), Sum.inl (cI, 9000, Sum.inl vGoing)), ((g 7), Sum.inl (cI, 9000, Sum.inl vOut)), ((g 8), Sum.inl (cI, 6000, Sum.inl vIn)), ((g 9), Sum.inl (cI, 512, Sum.inl vSO)), ((g 10), Sum.inl (cI, 512, Sum.inl vNO)), ((g 11), Sum.inl (cI, 20000, Sum.inl vWr)), (rc, Sum.inr (6, [Value.ref co, Value.ref ma, Value.int (nI (ms.length + 1)), Value.int fit, Value.int fen, Value.int frd, Value.int fbd, Value.int fir])), (ma, Sum.inl (cM, 8, Sum.inr (Sum.inr (Sum.inr (Sum.inr (va_up mf ms.length (some zq_138))))))), (co, Sum.inr (1, [Value.int xcache, Value.int xpending, Value.long xlow, Value.long xrange, Value.long xcode, Value.long xreadLow, Value.long xreadRange, Value.ref ri, Value.ref ro, Value.ref rw, Value.int xasked])), (zq_138, Sum.inr (8, [Value.ref zk_138, Value.ref aao_138, Value.ref bbo_138])), (zk_138, Sum.inl (cI, nS, Sum.inl zkf_138)), (aao_138, Sum.inr (7, [Value.int (nI nS), Value.int (nI (ns (les nS (fun _ => 1)) nS)), Value.int 0, Value.ref aaca_138, Value.ref aapa_138])), (aaca_138, Sum.inl (cI, nS, Sum.inl aacf_138)), (aapa_138, Sum.inl (cI, 0, Sum.inl (fun _ => 0))), (bbo_138, Sum.inr (7, [Value.int (nI nS), Value.int (nI (ns (les nS (fun _ => 1)) nS)), Value.int 0, Value.ref bbca_138, Value.ref bbpa_138])), (bbca_138, Sum.inl (cI, nS, Sum.inl bbcf_138)), (bbpa_138, Sum.inl (cI, 0, Sum.inl (fun _ => 0)))] ++ mbsC cI ms) H) (mb_push cI [(ri, Sum.inr (0, [Value.int (nI is.length), Value.ref ria])), (ria, Sum.inl (cI, rik, Sum.inl rif)), (ro, Sum.inr (0, [Value.int (nI os.length), Value.ref roa])), (roa, Sum.inl (cI, rok, Sum.inl rof)), (rw, Sum.inr (0, [Value.int rwn, Value.ref rwa])), (rwa, Sum.inl (cI, rwk, Sum.inl rwf)), (o, Sum.inr (9, mO g 0 fShift (nI ms.length) fit fen fLow fRange fCache fPend fGoes (nI os.length) (nI is.length) frd fBad fIR fAsk fBAsk fCode fRL fRR fX fWrites fThrown)), ((g 0), Sum.inl (cI, 8, Sum.inl vMany)), ((g 1), Sum.inl (cI, 512, Sum.inl vCounts)), ((g 2), Sum.inl (cI, 512, Sum.inl vNow)), ((g 3), Sum.inl (cI, 512, Sum.inl vThen)), ((g 4), Sum.inl (cI, 600, Sum.inl vIM)), ((g 5), Sum.inl (cI, 600, Sum.inl vIW)), ((g 6), Sum.inl (cI, 9000, Sum.inl vGoing)), ((g 7), Sum.inl (cI, 9000, Sum.inl vOut)), ((g 8), Sum.inl (cI, 6000, Sum.inl vIn)), ((g 9), Sum.inl (cI, 512, Sum.inl vSO)), ((g 10), Sum.inl (cI, 512, Sum.inl vNO)), ((g 11), Sum.inl (cI, 20000, Sum.inl vWr)), (rc, Sum.inr (6, [Value.ref co, Value.ref ma, Value.int (nI (ms.length + 1)), Value.int fit, Value.int fen, Value.int frd, Value.int fbd, Value.int fir])), (ma, Sum.inl (cM, 8, Sum.inr (Sum.inr (Sum.inr (Sum.inr (va_up mf ms.length (some zq_138))))))), (co, Sum.inr (1, [Value.int xcache, Value.int xpending, Value.long xlow, Value.long xrange, Value.long xcode, Value.long xreadLow, Value.long xreadRange, Value.ref ri, Value.ref ro, Value.ref rw, Value.int xasked]))] ms ((zq_138, zk_138, nS, zkf_138, (aao_138, (nI nS), (nI (ns (les nS (fun _ => 1)) nS)), 0, aaca_138, aapa_138, nS, aacf_138, 0, (fun _ => 0)), (bbo_138, (nI nS), (nI (ns (les nS (fun _ => 1)) nS)), 0, bbca_138, bbpa_138, nS, bbcf_138, 0, (fun _ => 0))) : MB)).symm
    replace hD := pm_D (hD.part [0, 1, 2, 3, 4, 5, 6, 7, 8, 9, 10, 11, 12, 13, 14, 15, 16, 17, 18, 19, 20, 21, 22, 23, 24, 25, 26, 27, 28, 29] (by decide +kernel) rfl : va_D A ([(ri, Sum.inr (0, [Value.int (nI is.length), Value.ref ria])), (ria, Sum.inl (cI, rik, Sum.inl rif)), (ro, Sum.inr (0, [Value.int (nI os.length), Value.ref roa])), (roa, Sum.inl (cI, rok, Sum.inl rof)), (rw, Sum.inr (0, [Value.int rwn, Value.ref rwa])), (rwa, Sum.inl (cI, rwk, Sum.inl rwf)), (o, Sum.inr (9, mO g 0 fShift (nI ms.length) fit fen fLow fRange fCache fPend fGoes (nI os.length) (nI is.length) frd fBad fIR fAsk fBAsk fCode fRL fRR fX fWrites fThrown)), ((g 0), Sum.inl (cI, 8, Sum.inl vMany)), ((g 1), Sum.inl (cI, 512, Sum.inl vCounts)), ((g 2), Sum.inl (cI, 512, Sum.inl vNow)), ((g 3), Sum.inl (cI, 512, Sum.inl vThen)), ((g 4), Sum.inl (cI, 600, Sum.inl vIM)), ((g 5), Sum.inl (cI, 600, Sum.inl vIW)), ((g 6), Sum.inl (cI, 9000, Sum.inl vGoing)), ((g 7), Sum.inl (cI, 9000, Sum.inl vOut)), ((g 8), Sum.inl (cI, 6000, Sum.inl vIn)), ((g 9), Sum.inl (cI, 512, Sum.inl vSO)), ((g 10), Sum.inl (cI, 512, Sum.inl vNO)), ((g 11), Sum.inl (cI, 20000, Sum.inl vWr)), (rc, Sum.inr (6, [Value.ref co, Value.ref ma, Value.int (nI (ms.length + 1)), Value.int fit, Value.int fen, Value.int frd, Value.int fbd, Value.int fir])), (ma, Sum.inl (cM, 8, Sum.inr (Sum.inr (Sum.inr (Sum.inr (va_up mf ms.length (some zq_138))))))), (co, Sum.inr (1, [Value.int xcache, Value.int xpending, Value.long xlow, Value.long xrange, Value.long xcode, Value.long xreadLow, Value.long xreadRange, Value.ref ri, Value.ref ro, Value.ref rw, Value.int xasked])), (zq_138, Sum.inr (8, [Value.ref zk_138, Value.ref aao_138, Value.ref bbo_138])), (zk_138, Sum.inl (cI, nS, Sum.inl zkf_138)), (aao_138, Sum.inr (7, [Value.int (nI nS), Value.int (nI (ns (les nS (fun _ => 1)) nS)), Value.int 0, Value.ref aaca_138, Value.ref aapa_138])), (aaca_138, Sum.inl (cI, nS, Sum.inl aacf_138)), (aapa_138, Sum.inl (cI, 0, Sum.inl (fun _ => 0))), (bbo_138, Sum.inr (7, [Value.int (nI nS), Value.int (nI (ns (les nS (fun _ => 1)) nS)), Value.int 0, Value.ref bbca_138, Value.ref bbpa_138])), (bbca_138, Sum.inl (cI, nS, Sum.inl bbcf_138)), (bbpa_138, Sum.inl (cI, 0, Sum.inl (fun _ => 0)))] ++ mbsC cI ms)) (mb_push cI [(ri, Sum.inr (0, [Value.int (nI is.length), Value.ref ria])), (ria, Sum.inl (cI, rik, Sum.inl rif)), (ro, Sum.inr (0, [Value.int (nI os.length), Value.ref roa])), (roa, Sum.inl (cI, rok, Sum.inl rof)), (rw, Sum.inr (0, [Value.int rwn, Value.ref rwa])), (rwa, Sum.inl (cI, rwk, Sum.inl rwf)), (o, Sum.inr (9, mO g 0 fShift (nI ms.length) fit fen fLow fRange fCache fPend fGoes (nI os.length) (nI is.length) frd fBad fIR fAsk fBAsk fCode fRL fRR fX fWrites fThrown)), ((g 0), Sum.inl (cI, 8, Sum.inl vMany)), ((g 1), Sum.inl (cI, 512, Sum.inl vCounts)), ((g 2), Sum.inl (cI, 512, Sum.inl vNow)), ((g 3), Sum.inl (cI, 512, Sum.inl vThen)), ((g 4), Sum.inl (cI, 600, Sum.inl vIM)), ((g 5), Sum.inl (cI, 600, Sum.inl vIW)), ((g 6), Sum.inl (cI, 9000, Sum.inl vGoing)), ((g 7), Sum.inl (cI, 9000, Sum.inl vOut)), ((g 8), Sum.inl (cI, 6000, Sum.inl vIn)), ((g 9), Sum.inl (cI, 512, Sum.inl vSO)), ((g 10), Sum.inl (cI, 512, Sum.inl vNO)), ((g 11), Sum.inl (cI, 20000, Sum.inl vWr)), (rc, Sum.inr (6, [Value.ref co, Value.ref ma, Value.int (nI (ms.length + 1)), Value.int fit, Value.int fen, Value.int frd, Value.int fbd, Value.int fir])), (ma, Sum.inl (cM, 8, Sum.inr (Sum.inr (Sum.inr (Sum.inr (va_up mf ms.length (some zq_138))))))), (co, Sum.inr (1, [Value.int xcache, Value.int xpending, Value.long xlow, Value.long xrange, Value.long xcode, Value.long xreadLow, Value.long xreadRange, Value.ref ri, Value.ref ro, Value.ref rw, Value.int xasked]))] ms ((zq_138, zk_138, nS, zkf_138, (aao_138, (nI nS), (nI (ns (les nS (fun _ => 1)) nS)), 0, aaca_138, aapa_138, nS, aacf_138, 0, (fun _ => 0)), (bbo_138, (nI nS), (nI (ns (les nS (fun _ => 1)) nS)), 0, bbca_138, bbpa_138, nS, bbcf_138, 0, (fun _ => 0))) : MB)).symm
    have hlen9 : (ms ++ [((zq_138, zk_138, nS, zkf_138, (aao_138, (nI nS), (nI (ns (les nS (fun _ => 1)) nS)), 0, aaca_138, aapa_138, nS, aacf_138, 0, (fun _ => 0)), (bbo_138, (nI nS), (nI (ns (les nS (fun _ => 1)) nS)), 0, bbca_138, bbpa_138, nS, bbcf_138, 0, (fun _ => 0))) : MB)]).length = ms.length + 1 := by rw [List.length_append, List.length_singleton]
    replace hP := Eq.mp (congrArg (fun (z9 : Nat) => va_P (dC, dI) vwCl ([(ri, Sum.inr (0, [Value.int (nI is.length), Value.ref ria])), (ria, Sum.inl (cI, rik, Sum.inl rif)), (ro, Sum.inr (0, [Value.int (nI os.length), Value.ref roa])), (roa, Sum.inl (cI, rok, Sum.inl rof)), (rw, Sum.inr (0, [Value.int rwn, Value.ref rwa])), (rwa, Sum.inl (cI, rwk, Sum.inl rwf)), (o, Sum.inr (9, mO g 0 fShift (nI ms.length) fit fen fLow fRange fCache fPend fGoes (nI os.length) (nI is.length) frd fBad fIR fAsk fBAsk fCode fRL fRR fX fWrites fThrown)), ((g 0), Sum.inl (cI, 8, Sum.inl vMany)), ((g 1), Sum.inl (cI, 512, Sum.inl vCounts)), ((g 2), Sum.inl (cI, 512, Sum.inl vNow)), ((g 3), Sum.inl (cI, 512, Sum.inl vThen)), ((g 4), Sum.inl (cI, 600, Sum.inl vIM)), ((g 5), Sum.inl (cI, 600, Sum.inl vIW)), ((g 6), Sum.inl (cI, 9000, Sum.inl vGoing)), ((g 7), Sum.inl (cI, 9000, Sum.inl vOut)), ((g 8), Sum.inl (cI, 6000, Sum.inl vIn)), ((g 9), Sum.inl (cI, 512, Sum.inl vSO)), ((g 10), Sum.inl (cI, 512, Sum.inl vNO)), ((g 11), Sum.inl (cI, 20000, Sum.inl vWr)), (rc, Sum.inr (6, [Value.ref co, Value.ref ma, Value.int (nI z9), Value.int fit, Value.int fen, Value.int frd, Value.int fbd, Value.int fir])), (ma, Sum.inl (cM, 8, Sum.inr (Sum.inr (Sum.inr (Sum.inr (va_up mf ms.length (some zq_138))))))), (co, Sum.inr (1, [Value.int xcache, Value.int xpending, Value.long xlow, Value.long xrange, Value.long xcode, Value.long xreadLow, Value.long xreadRange, Value.ref ri, Value.ref ro, Value.ref rw, Value.int xasked]))] ++ mbsC cI (ms ++ [((zq_138, zk_138, nS, zkf_138, (aao_138, (nI nS), (nI (ns (les nS (fun _ => 1)) nS)), 0, aaca_138, aapa_138, nS, aacf_138, 0, (fun _ => 0)), (bbo_138, (nI nS), (nI (ns (les nS (fun _ => 1)) nS)), 0, bbca_138, bbpa_138, nS, bbcf_138, 0, (fun _ => 0))) : MB)])) H) hlen9.symm) hP
    replace hD := Eq.mp (congrArg (fun (z9 : Nat) => va_D A ([(ri, Sum.inr (0, [Value.int (nI is.length), Value.ref ria])), (ria, Sum.inl (cI, rik, Sum.inl rif)), (ro, Sum.inr (0, [Value.int (nI os.length), Value.ref roa])), (roa, Sum.inl (cI, rok, Sum.inl rof)), (rw, Sum.inr (0, [Value.int rwn, Value.ref rwa])), (rwa, Sum.inl (cI, rwk, Sum.inl rwf)), (o, Sum.inr (9, mO g 0 fShift (nI ms.length) fit fen fLow fRange fCache fPend fGoes (nI os.length) (nI is.length) frd fBad fIR fAsk fBAsk fCode fRL fRR fX fWrites fThrown)), ((g 0), Sum.inl (cI, 8, Sum.inl vMany)), ((g 1), Sum.inl (cI, 512, Sum.inl vCounts)), ((g 2), Sum.inl (cI, 512, Sum.inl vNow)), ((g 3), Sum.inl (cI, 512, Sum.inl vThen)), ((g 4), Sum.inl (cI, 600, Sum.inl vIM)), ((g 5), Sum.inl (cI, 600, Sum.inl vIW)), ((g 6), Sum.inl (cI, 9000, Sum.inl vGoing)), ((g 7), Sum.inl (cI, 9000, Sum.inl vOut)), ((g 8), Sum.inl (cI, 6000, Sum.inl vIn)), ((g 9), Sum.inl (cI, 512, Sum.inl vSO)), ((g 10), Sum.inl (cI, 512, Sum.inl vNO)), ((g 11), Sum.inl (cI, 20000, Sum.inl vWr)), (rc, Sum.inr (6, [Value.ref co, Value.ref ma, Value.int (nI z9), Value.int fit, Value.int fen, Value.int frd, Value.int fbd, Value.int fir])), (ma, Sum.inl (cM, 8, Sum.inr (Sum.inr (Sum.inr (Sum.inr (va_up mf ms.length (some zq_138))))))), (co, Sum.inr (1, [Value.int xcache, Value.int xpending, Value.long xlow, Value.long xrange, Value.long xcode, Value.long xreadLow, Value.long xreadRange, Value.ref ri, Value.ref ro, Value.ref rw, Value.int xasked]))] ++ mbsC cI (ms ++ [((zq_138, zk_138, nS, zkf_138, (aao_138, (nI nS), (nI (ns (les nS (fun _ => 1)) nS)), 0, aaca_138, aapa_138, nS, aacf_138, 0, (fun _ => 0)), (bbo_138, (nI nS), (nI (ns (les nS (fun _ => 1)) nS)), 0, bbca_138, bbpa_138, nS, bbcf_138, 0, (fun _ => 0))) : MB)]))) hlen9.symm) hD
    have hPD : my_PD (dC, dI) vwCl A ([(ri, Sum.inr (0, [Value.int (nI is.length), Value.ref ria])), (ria, Sum.inl (cI, rik, Sum.inl rif)), (ro, Sum.inr (0, [Value.int (nI os.length), Value.ref roa])), (roa, Sum.inl (cI, rok, Sum.inl rof)), (rw, Sum.inr (0, [Value.int rwn, Value.ref rwa])), (rwa, Sum.inl (cI, rwk, Sum.inl rwf)), (o, Sum.inr (9, mO g 0 fShift (nI ms.length) fit fen fLow fRange fCache fPend fGoes (nI os.length) (nI is.length) frd fBad fIR fAsk fBAsk fCode fRL fRR fX fWrites fThrown)), ((g 0), Sum.inl (cI, 8, Sum.inl vMany)), ((g 1), Sum.inl (cI, 512, Sum.inl vCounts)), ((g 2), Sum.inl (cI, 512, Sum.inl vNow)), ((g 3), Sum.inl (cI, 512, Sum.inl vThen)), ((g 4), Sum.inl (cI, 600, Sum.inl vIM)), ((g 5), Sum.inl (cI, 600, Sum.inl vIW)), ((g 6), Sum.inl (cI, 9000, Sum.inl vGoing)), ((g 7), Sum.inl (cI, 9000, Sum.inl vOut)), ((g 8), Sum.inl (cI, 6000, Sum.inl vIn)), ((g 9), Sum.inl (cI, 512, Sum.inl vSO)), ((g 10), Sum.inl (cI, 512, Sum.inl vNO)), ((g 11), Sum.inl (cI, 20000, Sum.inl vWr)), (rc, Sum.inr (6, [Value.ref co, Value.ref ma, Value.int (nI (ms ++ [((zq_138, zk_138, nS, zkf_138, (aao_138, (nI nS), (nI (ns (les nS (fun _ => 1)) nS)), 0, aaca_138, aapa_138, nS, aacf_138, 0, (fun _ => 0)), (bbo_138, (nI nS), (nI (ns (les nS (fun _ => 1)) nS)), 0, bbca_138, bbpa_138, nS, bbcf_138, 0, (fun _ => 0))) : MB)]).length), Value.int fit, Value.int fen, Value.int frd, Value.int fbd, Value.int fir])), (ma, Sum.inl (cM, 8, Sum.inr (Sum.inr (Sum.inr (Sum.inr (va_up mf ms.length (some zq_138))))))), (co, Sum.inr (1, [Value.int xcache, Value.int xpending, Value.long xlow, Value.long xrange, Value.long xcode, Value.long xreadLow, Value.long xreadRange, Value.ref ri, Value.ref ro, Value.ref rw, Value.int xasked]))] ++ mbsC cI (ms ++ [((zq_138, zk_138, nS, zkf_138, (aao_138, (nI nS), (nI (ns (les nS (fun _ => 1)) nS)), 0, aaca_138, aapa_138, nS, aacf_138, 0, (fun _ => 0)), (bbo_138, (nI nS), (nI (ns (les nS (fun _ => 1)) nS)), 0, bbca_138, bbpa_138, nS, bbcf_138, 0, (fun _ => 0))) : MB)])) H := ⟨hP, hD⟩
    clear hP hD
    have hP := hPD.1
    have hD := hPD.2
    clear hPD
    refine lv_pop hx hb d_Law_law_141 rfl ?_
    refine lv_aload_n hx hb d_Law_law_142 rfl (lv_at hl 2 rfl) ?_
    refine lv_aload_n hx hb d_Law_law_143 rfl (lv_at hl 0 rfl) ?_
    refine lv_iload_n hx hb d_Law_law_144 rfl (lv_at hl 3 rfl) ?_
    refine lv_iconst (v := 1) hx hb d_Law_law_145 (by decide) ?_
    refine lv_iadd hx hb d_Law_law_146 ?_
    refine lv_topi (fun v_4 ev_4 => ?_)
    have hx_v_4 : v_4 = nI (i + 1) := by rw [ev_4]; exact nI_add i 1
    refine va_sld hx hb hX hbl hbA hS (by rw [hx_v_4]; exact vp_in_nI (by omega) (by omega)) d_Law_law_147 ?_
    rw [hx_v_4, nI_clamp (by omega)]
    refine W.eq (g2 := F0 m 148 ls [Value.int (nI nS), Value.ref o]) (by rw [ens]) ?_
    refine my_cit (wr := [(ri, Sum.inr (0, [Value.int (nI is.length), Value.ref ria])), (ria, Sum.inl (cI, rik, Sum.inl rif)), (ro, Sum.inr (0, [Value.int (nI os.length), Value.ref roa])), (roa, Sum.inl (cI, rok, Sum.inl rof)), (rw, Sum.inr (0, [Value.int rwn, Value.ref rwa])), (rwa, Sum.inl (cI, rwk, Sum.inl rwf)), ((g 4), Sum.inl (cI, 600, Sum.inl vIM)), ((g 5), Sum.inl (cI, 600, Sum.inl vIW)), ((g 6), Sum.inl (cI, 9000, Sum.inl vGoing)), ((g 7), Sum.inl (cI, 9000, Sum.inl vOut)), ((g 8), Sum.inl (cI, 6000, Sum.inl vIn)), ((g 9), Sum.inl (cI, 512, Sum.inl vSO)), ((g 10), Sum.inl (cI, 512, Sum.inl vNO)), ((g 11), Sum.inl (cI, 20000, Sum.inl vWr)), (rc, Sum.inr (6, [Value.ref co, Value.ref ma, Value.int (nI (ms ++ [((zq_138, zk_138, nS, zkf_138, (aao_138, (nI nS), (nI (ns (les nS (fun _ => 1)) nS)), 0, aaca_138, aapa_138, nS, aacf_138, 0, (fun _ => 0)), (bbo_138, (nI nS), (nI (ns (les nS (fun _ => 1)) nS)), 0, bbca_138, bbpa_138, nS, bbcf_138, 0, (fun _ => 0))) : MB)]).length), Value.int fit, Value.int fen, Value.int frd, Value.int fbd, Value.int fir])), (ma, Sum.inl (cM, 8, Sum.inr (Sum.inr (Sum.inr (Sum.inr (va_up mf ms.length (some zq_138))))))), (co, Sum.inr (1, [Value.int xcache, Value.int xpending, Value.long xlow, Value.long xrange, Value.long xcode, Value.long xreadLow, Value.long xreadRange, Value.ref ri, Value.ref ro, Value.ref rw, Value.int xasked]))]) (va_runV (As := [Value.int (nI nS)]) (rest := []) ⟨hx, hb, hml, hown, hts⟩ (m_modelB l dC dI cI cM cO H.size o g 0 fShift (nI ms.length) fit fen fLow fRange fCache fPend fGoes (nI os.length) (nI is.length) frd fBad fIR fAsk fBAsk fCode fRL fRR fX fWrites fThrown vMany vCounts vNow vThen 0 ms.length N nS (by decide) (rfl) (by first | rfl | rw [hlen9]) (by first | assumption | omega) (by first | assumption | omega) (by first | assumption | omega) (hk7) (mT_TB_Carries hmt) (by first | assumption | omega)) (cwV 1 hts (my_gV k1058 k1059 k1060 k12 k1061) rfl rfl rfl (by decide +kernel) ⟨by rw [hR]; exact Nat.le_of_ble_eq_true rfl, by rw [hR]; exact Nat.le_of_ble_eq_true rfl⟩) (my_preV hK hN (my_subU hP [6, 7, 8, 9, 10] rfl) (my_dubT hD [6, 7, 8, 9, 10] (by decide +kernel) rfl) 0 rfl rfl) rfl rfl hl.1 rfl (lv_room (Nat.le_of_ble_eq_true rfl)) d_Law_law_148 ⟨by rw [hR]; exact (show (dd + d_138) + 0 ≤ 600000 by omega), by rw [hR]; exact (show (dd + d_138) + 0 ≤ 7302250 by omega)⟩) hP hD hS hA [6, 7, 8, 9, 10] [0, 1, 2, 3, 4, 5, 11, 12, 13, 14, 15, 16, 17, 18, 19, 20, 21] rfl rfl (by decide +kernel) (by decide +kernel) (fun r_148 u9 _ _ hw_148 _ _ _ => ?_)
    clear hP hD hS
    rename_i H locs hP hD hS
    obtain ⟨fModelsq_148, fThrownq_148, vManyq_148, vCountsq_148, vNowq_148, vThenq_148⟩ := u9
    obtain ⟨hr_148, hMDq_148, hTq_148, hUq_148, hmq_148, hoq_148, hnq_148, hcq_148, hcoq_148⟩ : r_148 = nI ms.length ∧ MD (ms.length + 1) (upN N ms.length nS) vManyq_148 vCountsq_148 ∧ TB 0 (ms.length + 1) (upN N ms.length nS) vNowq_148 ∧ TB 0 (ms.length + 1) (upN N ms.length nS) vThenq_148 ∧ fModelsq_148 = nI (ms.length + 1) ∧ sgO vNowq_148 vNow (64 * ms.length) 64 ∧ sgI vNowq_148 (64 * ms.length) (pfN 0 nS) (pf 0 nS (fun _ => 1)) ∧ sgI vCountsq_148 (64 * ms.length) nS (fun _ => 1) ∧ sgO vCountsq_148 vCounts (64 * ms.length) 64 := hw_148
    have hPD : my_PD (dC, dI) vwCl A ([(ri, Sum.inr (0, [Value.int (nI is.length), Value.ref ria])), (ria, Sum.inl (cI, rik, Sum.inl rif)), (ro, Sum.inr (0, [Value.int (nI os.length), Value.ref roa])), (roa, Sum.inl (cI, rok, Sum.inl rof)), (rw, Sum.inr (0, [Value.int rwn, Value.ref rwa])), (rwa, Sum.inl (cI, rwk, Sum.inl rwf)), ((g 4), Sum.inl (cI, 600, Sum.inl vIM)), ((g 5), Sum.inl (cI, 600, Sum.inl vIW)), ((g 6), Sum.inl (cI, 9000, Sum.inl vGoing)), ((g 7), Sum.inl (cI, 9000, Sum.inl vOut)), ((g 8), Sum.inl (cI, 6000, Sum.inl vIn)), ((g 9), Sum.inl (cI, 512, Sum.inl vSO)), ((g 10), Sum.inl (cI, 512, Sum.inl vNO)), ((g 11), Sum.inl (cI, 20000, Sum.inl vWr)), (rc, Sum.inr (6, [Value.ref co, Value.ref ma, Value.int (nI (ms ++ [((zq_138, zk_138, nS, zkf_138, (aao_138, (nI nS), (nI (ns (les nS (fun _ => 1)) nS)), 0, aaca_138, aapa_138, nS, aacf_138, 0, (fun _ => 0)), (bbo_138, (nI nS), (nI (ns (les nS (fun _ => 1)) nS)), 0, bbca_138, bbpa_138, nS, bbcf_138, 0, (fun _ => 0))) : MB)]).length), Value.int fit, Value.int fen, Value.int frd, Value.int fbd, Value.int fir])), (ma, Sum.inl (cM, 8, Sum.inr (Sum.inr (Sum.inr (Sum.inr (va_up mf ms.length (some zq_138))))))), (co, Sum.inr (1, [Value.int xcache, Value.int xpending, Value.long xlow, Value.long xrange, Value.long xcode, Value.long xreadLow, Value.long xreadRange, Value.ref ri, Value.ref ro, Value.ref rw, Value.int xasked])), (o, Sum.inr (9, mO g 0 fShift fModelsq_148 fit fen fLow fRange fCache fPend fGoes (nI os.length) (nI is.length) frd fBad fIR fAsk fBAsk fCode fRL fRR fX fWrites fThrownq_148)), ((g 0), Sum.inl (cI, 8, Sum.inl vManyq_148)), ((g 1), Sum.inl (cI, 512, Sum.inl vCountsq_148)), ((g 2), Sum.inl (cI, 512, Sum.inl vNowq_148)), ((g 3), Sum.inl (cI, 512, Sum.inl vThenq_148))] ++ mbsC cI (ms ++ [((zq_138, zk_138, nS, zkf_138, (aao_138, (nI nS), (nI (ns (les nS (fun _ => 1)) nS)), 0, aaca_138, aapa_138, nS, aacf_138, 0, (fun _ => 0)), (bbo_138, (nI nS), (nI (ns (les nS (fun _ => 1)) nS)), 0, bbca_138, bbpa_138, nS, bbcf_138, 0, (fun _ => 0))) : MB)])) H := ⟨hP, hD⟩
    clear hP hD
    have hP := hPD.1
    have hD := hPD.2
    clear hPD
    subst hmq_148
    rw [← hlen9] at hP hD
    have hPD : my_PD (dC, dI) vwCl A ([(ri, Sum.inr (0, [Value.int (nI is.length), Value.ref ria])), (ria, Sum.inl (cI, rik, Sum.inl rif)), (ro, Sum.inr (0, [Value.int (nI os.length), Value.ref roa])), (roa, Sum.inl (cI, rok, Sum.inl rof)), (rw, Sum.inr (0, [Value.int rwn, Value.ref rwa])), (rwa, Sum.inl (cI, rwk, Sum.inl rwf)), ((g 4), Sum.inl (cI, 600, Sum.inl vIM)), ((g 5), Sum.inl (cI, 600, Sum.inl vIW)), ((g 6), Sum.inl (cI, 9000, Sum.inl vGoing)), ((g 7), Sum.inl (cI, 9000, Sum.inl vOut)), ((g 8), Sum.inl (cI, 6000, Sum.inl vIn)), ((g 9), Sum.inl (cI, 512, Sum.inl vSO)), ((g 10), Sum.inl (cI, 512, Sum.inl vNO)), ((g 11), Sum.inl (cI, 20000, Sum.inl vWr)), (rc, Sum.inr (6, [Value.ref co, Value.ref ma, Value.int (nI (ms ++ [((zq_138, zk_138, nS, zkf_138, (aao_138, (nI nS), (nI (ns (les nS (fun _ => 1)) nS)), 0, aaca_138, aapa_138, nS, aacf_138, 0, (fun _ => 0)), (bbo_138, (nI nS), (nI (ns (les nS (fun _ => 1)) nS)), 0, bbca_138, bbpa_138, nS, bbcf_138, 0, (fun _ => 0))) : MB)]).length), Value.int fit, Value.int fen, Value.int frd, Value.int fbd, Value.int fir])), (ma, Sum.inl (cM, 8, Sum.inr (Sum.inr (Sum.inr (Sum.inr (va_up mf ms.length (some zq_138))))))), (co, Sum.inr (1, [Value.int xcache, Value.int xpending, Value.long xlow, Value.long xrange, Value.long xcode, Value.long xreadLow, Value.long xreadRange, Value.ref ri, Value.ref ro, Value.ref rw, Value.int xasked])), (o, Sum.inr (9, mO g 0 fShift (nI (ms ++ [((zq_138, zk_138, nS, zkf_138, (aao_138, (nI nS), (nI (ns (les nS (fun _ => 1)) nS)), 0, aaca_138, aapa_138, nS, aacf_138, 0, (fun _ => 0)), (bbo_138, (nI nS), (nI (ns (les nS (fun _ => 1)) nS)), 0, bbca_138, bbpa_138, nS, bbcf_138, 0, (fun _ => 0))) : MB)]).length) fit fen fLow fRange fCache fPend fGoes (nI os.length) (nI is.length) frd fBad fIR fAsk fBAsk fCode fRL fRR fX fWrites fThrownq_148)), ((g 0), Sum.inl (cI, 8, Sum.inl vManyq_148)), ((g 1), Sum.inl (cI, 512, Sum.inl vCountsq_148)), ((g 2), Sum.inl (cI, 512, Sum.inl vNowq_148)), ((g 3), Sum.inl (cI, 512, Sum.inl vThenq_148))] ++ mbsC cI (ms ++ [((zq_138, zk_138, nS, zkf_138, (aao_138, (nI nS), (nI (ns (les nS (fun _ => 1)) nS)), 0, aaca_138, aapa_138, nS, aacf_138, 0, (fun _ => 0)), (bbo_138, (nI nS), (nI (ns (les nS (fun _ => 1)) nS)), 0, bbca_138, bbpa_138, nS, bbcf_138, 0, (fun _ => 0))) : MB)])) H := ⟨hP, hD⟩
    clear hP hD
    have hP := hPD.1
    have hD := hPD.2
    clear hPD
    refine lv_pop hx hb d_Law_law_151 rfl ?_
    refine lv_goto (tgt := 530) hx hb d_Law_law_152 (by decide) ?_
    exact kk (dd + d_138) H locs ls (fun C9 k9 => k9 (ms ++ [((zq_138, zk_138, nS, zkf_138, (aao_138, (nI nS), (nI (ns (les nS (fun _ => 1)) nS)), 0, aaca_138, aapa_138, nS, aacf_138, 0, (fun _ => 0)), (bbo_138, (nI nS), (nI (ns (les nS (fun _ => 1)) nS)), 0, bbca_138, bbpa_138, nS, bbcf_138, 0, (fun _ => 0))) : MB)]) (is) (os) (fit) (fen) (frd) (fbd) (fir) (va_up mf ms.length (some zq_138)) (ma) (co) (xcache) (xpending) (xlow) (xrange) (xcode) (xreadLow) (xreadRange) (ri) (ro) (rw) (xasked) (ria) (rik) (rif) (roa) (rok) (rof) (rwn) (rwa) (rwk) (rwf) (g) (fShift) (fLow) (fRange) (fCache) (fPend) (fGoes) (fBad) (fIR) (fAsk) (fBAsk) (fCode) (fRL) (fRR) (fX) (fWrites) (fThrownq_148) (vManyq_148) (vCountsq_148) (vNowq_148) (vThenq_148) (vIM) (vIW) (vGoing) (vOut) (vIn) (vSO) (vNO) (vWr) ((upN N ms.length nS)) (my_partU hP [14, 15, 16, 0, 1, 2, 3, 4, 5, 17, 18, 19, 20, 21, 6, 7, 8, 9, 10, 11, 12, 13] rfl) (hD.part [14, 15, 16, 0, 1, 2, 3, 4, 5, 17, 18, 19, 20, 21, 6, 7, 8, 9, 10, 11, 12, 13] (by decide +kernel) rfl) (by rw [hlen9]; omega) (mf_push (x := ((zq_138, zk_138, nS, zkf_138, (aao_138, (nI nS), (nI (ns (les nS (fun _ => 1)) nS)), 0, aaca_138, aapa_138, nS, aacf_138, 0, (fun _ => 0)), (bbo_138, (nI nS), (nI (ns (les nS (fun _ => 1)) nS)), 0, bbca_138, bbpa_138, nS, bbcf_138, 0, (fun _ => 0))) : MB)) hmf hk7) (ok_push hmo ⟨hns, ⟨(show 1 ≤ nS by omega), hns, (show (0 : Nat) ≤ 512 by decide)⟩, ⟨(show 1 ≤ nS by omega), hns, (show (0 : Nat) ≤ 512 by decide)⟩⟩) (hri) (hro) (hrw) (by rw [hlen9]; exact hMDq_148) (mt_push (P2 := fun j x => mT_Carries (upN N ms.length nS j) _ _ j x) hmt (fun i u hi hu => by rw [upN_n _ (Nat.ne_of_lt hi)]; exact mT_keep_Carries hu hcoq_148 hoq_148 (Nat.ne_of_gt hi)) (by rw [upN_s]; exact ⟨hns2, hns, _, _, _, _, _, _, _, _, (les nS (fun _ => 1)), _, rfl, fun k hk => by rw [hcq_148 k hk]; exact hkf_138 k hk, tab_pf (by decide) hns (by omega) (fun _ _ => (by decide : 1 ≤ 4095)) hnq_148, haa_138⟩)) (by rw [hlen9]; exact hUq_148) (hMS) (hIr) (hIm) (hI6) (hIo) (hOr) (hOm) (hO6) (hOo) (fun z1 z2 => RD0_up (hRD z1 z2)) (by rw [hlen9]; omega)) hS (lv_sub hl [0, 1, 2, 3] rfl)
end
