section
set_option maxHeartbeats 2000000 in
set_option maxRecDepth 100000 in
theorem f_Bits_levelsOf (l : Launch) (dC : Nat → ClassId) (dI : Nat → Nat → Nat) (cI cM cO : ClassId) (sz : Nat) (n : Nat) (hn1 : 2 ≤ n) (hn : n ≤ 64) : MetI l y_Bits_levelsOf (Cond.code y_Bits_levelsOf prog_2_method_9_code 2 (some .int) :: gw) ({ frames := 0, cells := 0, slots := 0, locals := 0 } : Room) (dC, dI) vwCl (kT cI cM cO) [Value.int (nI n)] [] sz (fun (r : Int32) (u : Unit) => r = nI (lev n)) (fun (u : Unit) => []) 0 0 := by
  refine my_ofI (cc := prog_2_method_9_code) (n := 2) (ret := (some .int)) (by decide) rfl (Nat.le_of_ble_eq_true rfl) ?_
  intro p e s m args below meth c R Q A ls H locs hx hb hr hts hown hlocks hml hnm hR hQ hA hl hP hK hN hD hS
  have hg : ∀ w ∈ gw, w.before args s = true := fun w h => hts w (List.mem_cons_of_mem _ h)
  have hown : s.vm.findClass "RangeCoders$Bits" = some m.cls := hown
  have hl : lv_has ls 2 [(0, Value.int (nI n))] := hl
  refine lv_iconst (v := 1) hx hb d_Bits_levelsOf_0 (by decide) ?_
  refine lv_istore_n (lv' := [(1, Value.int 1), (0, Value.int (nI n))]) hx hb d_Bits_levelsOf_1 rfl hl (by decide) rfl (fun ls hl => ?_)
  have J_2 : ∀ (n9_2 : Nat) (j : Nat) (hn9_2 : 6 - j = n9_2) (hj : j ≤ 6) (hj1 : 1 ≤ j) (hq : 2 ^ (j - 1) < n) (H : Heap) (locs : List Loc) (ls : Array Slot), va_P (dC, dI) vwCl [] H → va_D A [] → va_S A s.heap H locs → lv_has ls 2 [(1, Value.int (nI j)), (0, Value.int (nI n))] → W p l e R s m args below meth c H locs 0 0 Q (F0 m 2 ls []) := by
    intro n9_2
    induction n9_2 using Nat.strongRecOn with
    | ind n9_2 ih9_2 =>
      intro j hn9_2 hj hj1 hq H locs ls hP hD hS hl
      have hp9 : 2 ^ j ≤ 2 ^ 6 := Nat.pow_le_pow_right (by decide) hj
      refine lv_iload_n hx hb d_Bits_levelsOf_2 rfl (lv_at hl 0 rfl) ?_
      refine lv_bipush (v := 6) hx hb d_Bits_levelsOf_3 (by decide) ?_
      refine lv_icmp_ge (tgt := 21) hx hb d_Bits_levelsOf_5 (by decide) (fun c_1 => ?_) (fun c_1 => ?_)
      · have hlv : j = lev n := lev_of hj (by have := nI_ge' (n := 6) (by omega) (by decide) c_1; have e : j = 6 := (by omega); rw [e]; exact hn) (fun _ => hq)
        refine lv_iload_n hx hb d_Bits_levelsOf_21 rfl (lv_at hl 0 rfl) ?_
        exact my_iret (v := nI j) hx hb hr (rfl) hlocks hQ hK hS (Nat.le_refl _) (Nat.le_refl _) () (by rw [← hlv]) (hP.sub [] rfl) (hD.sub [] (by decide +kernel) rfl) d_Bits_levelsOf_22
      · have hj6 : j < 6 := nI_lt' (by omega) c_1
        refine lv_iconst (v := 1) hx hb d_Bits_levelsOf_8 (by decide) ?_
        refine lv_iload_n hx hb d_Bits_levelsOf_9 rfl (lv_at hl 0 rfl) ?_
        refine lv_ishl hx hb d_Bits_levelsOf_10 ?_
        refine lv_topi (fun v_2 ev_2 => ?_)
        have z9 : v_2 = nI (2 ^ j) := by rw [ev_2]; exact shl1 j (by omega)
        subst z9
        refine lv_iload_n hx hb d_Bits_levelsOf_11 rfl (lv_at hl 1 rfl) ?_
        refine lv_icmp_ge (tgt := 21) hx hb d_Bits_levelsOf_12 (by decide) (fun c_3 => ?_) (fun c_3 => ?_)
        · have hlv : j = lev n := lev_of hj (nI_ge' (by omega) (by omega) c_3) (fun _ => hq)
          refine lv_iload_n hx hb d_Bits_levelsOf_21 rfl (lv_at hl 0 rfl) ?_
          exact my_iret (v := nI j) hx hb hr (rfl) hlocks hQ hK hS (Nat.le_refl _) (Nat.le_refl _) () (by rw [← hlv]) (hP.sub [] rfl) (hD.sub [] (by decide +kernel) rfl) d_Bits_levelsOf_22
        · have hlt : 2 ^ (j + 1 - 1) < n := by rw [Nat.add_sub_cancel]; exact nI_lt' (by omega) c_3
          obtain ⟨v_4, ev_4⟩ : ∃ y : Int32, y = (nI j) + (1) := ⟨_, rfl⟩
          refine lv_iinc (v := v_4) (lv' := [(1, Value.int v_4), (0, Value.int (nI n))]) hx hb d_Bits_levelsOf_15 hl (k := 0) rfl (by rw [ev_4]; rfl) (by decide) rfl (fun ls hl => ?_)
          have z9 : v_4 = nI (j + 1) := by rw [ev_4]; exact nI_1 _
          subst z9
          refine lv_goto (tgt := 2) hx hb d_Bits_levelsOf_18 (by decide) ?_
          exact ih9_2 _ (by first | omega | (omega)) (j + 1) rfl (by omega) (by omega) (hlt) H locs ls (hP.sub [] rfl) (hD.sub [] (by decide +kernel) rfl) hS (lv_sub hl [0, 1] rfl)
  exact J_2 _ (1 : Nat) rfl (by decide) (by decide) (by show 1 < n; omega) H locs ls (hP.sub [] rfl) (hD.sub [] (by decide +kernel) rfl) hS (lv_sub hl [0, 1] rfl)
set_option maxHeartbeats 2000000 in
set_option maxRecDepth 100000 in
theorem f_Bits_adapt (l : Launch) (dC : Nat → ClassId) (dI : Nat → Nat → Nat) (cI cM cO : ClassId) (sz : Nat) (co : Nat) (xkeptCode : Int64) (xkeptRange : Int64) (xkeptAsked : Int32) (xcache : Int32) (xpending : Int32) (xlow : Int64) (xrange : Int64) (xcode : Int64) (xreadLow : Int64) (xreadRange : Int64) (ri : Nat) (ro : Nat) (rw : Nat) (xasked : Int32) (oo : Nat) (osg : Int32) (ofc : Int32) (oca : Nat) (opa : Nat) (n : Nat) (ocf : Nat → Int32) (opl : Nat) (opf : Nat → Int32) (osm : Int32) (nd : Nat) (pp : Nat) (bt : Nat) (sh : Nat) (hn : n ≤ 64) (hpl : opl ≤ 512) (hnd0 : 1 ≤ nd) (hnd : nd < n) (hofc : ofc = 1) (hp : ocf nd = nI pp) (hp2 : pp ≤ 2048) (hsh : sh ≤ 10) (hbt : bt < 2) : MetV l y_Bits_adapt (Cond.code y_Bits_adapt prog_2_method_12_code 5 none :: gw) ({ frames := 2, cells := 0, slots := 0, locals := 43 } : Room) (dC, dI) vwCl (kT cI cM cO) [Value.ref co, Value.ref oo, Value.int (nI nd), Value.int (nI bt)] [(co, Sum.inr (3, [Value.int (nI sh), Value.long xkeptCode, Value.long xkeptRange, Value.int xkeptAsked, Value.int xcache, Value.int xpending, Value.long xlow, Value.long xrange, Value.long xcode, Value.long xreadLow, Value.long xreadRange, Value.ref ri, Value.ref ro, Value.ref rw, Value.int xasked])), (oo, Sum.inr (7, [Value.int osg, Value.int osm, Value.int ofc, Value.ref oca, Value.ref opa])), (oca, Sum.inl (cI, n, Sum.inl ocf)), (opa, Sum.inl (cI, opl, Sum.inl opf))] sz (fun (u : Int32 × (Nat → Int32)) => u.2 = upd ocf nd (nI (mvC sh bt pp))) (fun (u : Int32 × (Nat → Int32)) => [(co, Sum.inr (3, [Value.int (nI sh), Value.long xkeptCode, Value.long xkeptRange, Value.int xkeptAsked, Value.int xcache, Value.int xpending, Value.long xlow, Value.long xrange, Value.long xcode, Value.long xreadLow, Value.long xreadRange, Value.ref ri, Value.ref ro, Value.ref rw, Value.int xasked])), (oo, Sum.inr (7, [Value.int osg, Value.int u.1, Value.int ofc, Value.ref oca, Value.ref opa])), (oca, Sum.inl (cI, n, Sum.inl u.2)), (opa, Sum.inl (cI, opl, Sum.inl opf))]) 0 0 := by
  refine my_ofV (cc := prog_2_method_12_code) (n := 5) (ret := none) (by decide) rfl (Nat.le_of_ble_eq_true rfl) ?_
  intro p e s m args below meth c R Q A ls H locs hx hb hr hts hown hlocks hml hnm hR hQ hA hl hP hK hN hD hS
  have hg : ∀ w ∈ gw, w.before args s = true := fun w h => hts w (List.mem_cons_of_mem _ h)
  have hown : s.vm.findClass "RangeCoders$Bits" = some m.cls := hown
  have hl : lv_has ls 5 [(0, Value.ref co), (1, Value.ref oo), (2, Value.int (nI nd)), (3, Value.int (nI bt))] := hl
  refine lv_aload_n hx hb d_Bits_adapt_0 rfl (lv_at hl 1 rfl) ?_
  refine lv_iload_n hx hb d_Bits_adapt_1 rfl (lv_at hl 2 rfl) ?_
  refine my_ci (wr := [(co, Sum.inr (3, [Value.int (nI sh), Value.long xkeptCode, Value.long xkeptRange, Value.int xkeptAsked, Value.int xcache, Value.int xpending, Value.long xlow, Value.long xrange, Value.long xcode, Value.long xreadLow, Value.long xreadRange, Value.ref ri, Value.ref ro, Value.ref rw, Value.int xasked]))]) (va_runV (As := [Value.int (nI nd)]) (rest := []) ⟨hx, hb, hml, hown, hts⟩ (f_Odds_at l dC dI cI cM cO H.size oo osg ofc oca opa n ocf opl opf osm nd (by first | assumption | omega) (by first | assumption | omega) (hnd) (by rw [hofc]; exact nI_le (a := 1) hnd0 (by omega))) (cwV 1 hts (my_gV k449 k436 k437 k14 k438) rfl rfl rfl cu_Odds_at_1 ⟨by rw [hR]; exact Nat.le_of_ble_eq_true rfl, by rw [hR]; exact Nat.le_of_ble_eq_true rfl⟩) (my_preV hK hN (hP.sub [1, 2, 3] rfl) (hD.sub [1, 2, 3] (by decide +kernel) rfl) 0 rfl rfl) rfl rfl hl.1 rfl (lv_room (Nat.le_of_ble_eq_true rfl)) d_Bits_adapt_2 ⟨by rw [hR]; exact Nat.le_of_ble_eq_true rfl, by rw [hR]; exact Nat.le_of_ble_eq_true rfl⟩) hP hD hS hA [1, 2, 3] [0] rfl rfl (by decide +kernel) (by decide +kernel) (fun r_2 u9 H locs hw_2 hP hD hS => ?_)
  have hr_2 : r_2 = ocf nd := hw_2
  have hPD : my_PD (dC, dI) vwCl A [(co, Sum.inr (3, [Value.int (nI sh), Value.long xkeptCode, Value.long xkeptRange, Value.int xkeptAsked, Value.int xcache, Value.int xpending, Value.long xlow, Value.long xrange, Value.long xcode, Value.long xreadLow, Value.long xreadRange, Value.ref ri, Value.ref ro, Value.ref rw, Value.int xasked])), (oo, Sum.inr (7, [Value.int osg, Value.int osm, Value.int ofc, Value.ref oca, Value.ref opa])), (oca, Sum.inl (cI, n, Sum.inl ocf)), (opa, Sum.inl (cI, opl, Sum.inl opf))] H := ⟨hP, hD⟩
  have hP := hPD.1
  have hD := hPD.2
  rw [hp] at hr_2
  have z9 : r_2 = nI pp := hr_2
  subst z9
  have hpl9 : pp / 2 ^ sh ≤ pp := Nat.div_le_self _ _
  refine lv_istore (lv' := [(4, Value.int (nI pp)), (0, Value.ref co), (1, Value.ref oo), (2, Value.int (nI nd)), (3, Value.int (nI bt))]) hx hb d_Bits_adapt_5 hl (by decide) rfl (fun ls hl => ?_)
  refine lv_aload_n hx hb d_Bits_adapt_7 rfl (lv_at hl 2 rfl) ?_
  refine lv_iload_n hx hb d_Bits_adapt_8 rfl (lv_at hl 3 rfl) ?_
  refine lv_iload_n hx hb d_Bits_adapt_9 rfl (lv_at hl 4 rfl) ?_
  refine lv_if_ne (tgt := 27) hx hb d_Bits_adapt_10 (by decide) (fun c_1 => ?_) (fun c_1 => ?_)
  · refine lv_iload hx hb d_Bits_adapt_27 (lv_at hl 0 rfl) ?_
    refine lv_aload_n hx hb d_Bits_adapt_29 rfl (lv_at hl 1 rfl) ?_
    refine va_get (D := (dC, dI)) (ci := 3) (v := .int (nI sh)) (C := "RangeCoders$Bits") (T := T_Bits) (N := 15) hx hb hg in_Bits hown hK hP 0 rfl rfl 0 (by decide) (hg _ k176) (fun _ h9 => h9) rfl d_Bits_adapt_30 ?_
    refine lv_ishr hx hb d_Bits_adapt_33 ?_
    refine lv_topi (fun v_2 ev_2 => ?_)
    refine lv_ineg hx hb d_Bits_adapt_34 ?_
    refine lv_topi (fun v_3 ev_3 => ?_)
    have hgv : nI pp + v_3 = nI (mvC sh bt pp) := by
      unfold mvC
      rw [if_neg (fun q => c_1 (by rw [q]; rfl))]
      subst_vars
      rw [I_shr (by omega) (by omega), ← Int32.sub_eq_add_neg]
      exact pk_sub hpl9
    refine my_cv (wr := [(co, Sum.inr (3, [Value.int (nI sh), Value.long xkeptCode, Value.long xkeptRange, Value.int xkeptAsked, Value.int xcache, Value.int xpending, Value.long xlow, Value.long xrange, Value.long xcode, Value.long xreadLow, Value.long xreadRange, Value.ref ri, Value.ref ro, Value.ref rw, Value.int xasked]))]) (va_runV (As := [Value.int (nI nd), Value.int v_3]) (rest := []) ⟨hx, hb, hml, hown, hts⟩ (f_Odds_grow l dC dI cI cM cO H.size oo osg ofc oca opa n ocf opl opf osm nd v_3 (by first | assumption | omega) (by first | assumption | omega) (hnd) (by rw [hofc]; exact nI_le (a := 1) hnd0 (by omega))) (cwV 2 hts (my_gV k454 k393 k394 k14 k395) rfl rfl rfl cu_Odds_grow_2 ⟨by rw [hR]; exact Nat.le_of_ble_eq_true rfl, by rw [hR]; exact Nat.le_of_ble_eq_true rfl⟩) (my_preV hK hN (hP.sub [1, 2, 3] rfl) (hD.sub [1, 2, 3] (by decide +kernel) rfl) 0 rfl rfl) rfl rfl hl.1 rfl (lv_room (Nat.le_of_ble_eq_true rfl)) d_Bits_adapt_35 ⟨by rw [hR]; exact Nat.le_of_ble_eq_true rfl, by rw [hR]; exact Nat.le_of_ble_eq_true rfl⟩) hP hD hS hA [1, 2, 3] [0] rfl rfl (by decide +kernel) (by decide +kernel) (fun u9 H locs hw_35 hP hD hS => ?_)
    obtain ⟨ocfq_35, rfl⟩ : ∃ z, z = u9 := ⟨_, rfl⟩
    have hc_35 : ocfq_35 = upd ocf nd (ocf nd + v_3) := hw_35
    have hPD : my_PD (dC, dI) vwCl A [(co, Sum.inr (3, [Value.int (nI sh), Value.long xkeptCode, Value.long xkeptRange, Value.int xkeptAsked, Value.int xcache, Value.int xpending, Value.long xlow, Value.long xrange, Value.long xcode, Value.long xreadLow, Value.long xreadRange, Value.ref ri, Value.ref ro, Value.ref rw, Value.int xasked])), (oo, Sum.inr (7, [Value.int osg, Value.int (osm + v_3), Value.int ofc, Value.ref oca, Value.ref opa])), (oca, Sum.inl (cI, n, Sum.inl ocfq_35)), (opa, Sum.inl (cI, opl, Sum.inl opf))] H := ⟨hP, hD⟩
    have hP := hPD.1
    have hD := hPD.2
    exact my_vret hx hb hr hlocks hQ hK hS (Nat.le_refl _) (Nat.le_refl _) (osm + v_3, ocfq_35) (by rw [hc_35, hp, hgv]) (hP.sub [0, 1, 2, 3] rfl) (hD.sub [0, 1, 2, 3] (by decide +kernel) rfl) d_Bits_adapt_38
  · refine lv_sipush (v := 2048) hx hb d_Bits_adapt_13 (by decide) ?_
    refine lv_iload hx hb d_Bits_adapt_16 (lv_at hl 0 rfl) ?_
    refine lv_isub hx hb d_Bits_adapt_18 ?_
    refine lv_topi (fun v_4 ev_4 => ?_)
    refine lv_aload_n hx hb d_Bits_adapt_19 rfl (lv_at hl 1 rfl) ?_
    refine va_get (D := (dC, dI)) (ci := 3) (v := .int (nI sh)) (C := "RangeCoders$Bits") (T := T_Bits) (N := 15) hx hb hg in_Bits hown hK hP 0 rfl rfl 0 (by decide) (hg _ k176) (fun _ h9 => h9) rfl d_Bits_adapt_20 ?_
    refine lv_ishr hx hb d_Bits_adapt_23 ?_
    refine lv_topi (fun v_5 ev_5 => ?_)
    refine lv_goto (tgt := 35) hx hb d_Bits_adapt_24 (by decide) ?_
    have hgv : nI pp + v_5 = nI (mvC sh bt pp) := by
      unfold mvC
      rw [if_pos ((nI_eq (b := 0) (by omega) (by decide)).mp c_1)]
      subst_vars
      rw [show (2048 : Int32) - nI pp = nI (2048 - pp) from pk_sub (a := 2048) hp2, I_shr (by omega) (by omega)]
      exact nI_add _ _
    refine my_cv (wr := [(co, Sum.inr (3, [Value.int (nI sh), Value.long xkeptCode, Value.long xkeptRange, Value.int xkeptAsked, Value.int xcache, Value.int xpending, Value.long xlow, Value.long xrange, Value.long xcode, Value.long xreadLow, Value.long xreadRange, Value.ref ri, Value.ref ro, Value.ref rw, Value.int xasked]))]) (va_runV (As := [Value.int (nI nd), Value.int v_5]) (rest := []) ⟨hx, hb, hml, hown, hts⟩ (f_Odds_grow l dC dI cI cM cO H.size oo osg ofc oca opa n ocf opl opf osm nd v_5 (by first | assumption | omega) (by first | assumption | omega) (hnd) (by rw [hofc]; exact nI_le (a := 1) hnd0 (by omega))) (cwV 2 hts (my_gV k454 k393 k394 k14 k395) rfl rfl rfl cu_Odds_grow_2 ⟨by rw [hR]; exact Nat.le_of_ble_eq_true rfl, by rw [hR]; exact Nat.le_of_ble_eq_true rfl⟩) (my_preV hK hN (hP.sub [1, 2, 3] rfl) (hD.sub [1, 2, 3] (by decide +kernel) rfl) 0 rfl rfl) rfl rfl hl.1 rfl (lv_room (Nat.le_of_ble_eq_true rfl)) d_Bits_adapt_35 ⟨by rw [hR]; exact Nat.le_of_ble_eq_true rfl, by rw [hR]; exact Nat.le_of_ble_eq_true rfl⟩) hP hD hS hA [1, 2, 3] [0] rfl rfl (by decide +kernel) (by decide +kernel) (fun u9 H locs hw_35 hP hD hS => ?_)
    obtain ⟨ocfq_35, rfl⟩ : ∃ z, z = u9 := ⟨_, rfl⟩
    have hc_35 : ocfq_35 = upd ocf nd (ocf nd + v_5) := hw_35
    have hPD : my_PD (dC, dI) vwCl A [(co, Sum.inr (3, [Value.int (nI sh), Value.long xkeptCode, Value.long xkeptRange, Value.int xkeptAsked, Value.int xcache, Value.int xpending, Value.long xlow, Value.long xrange, Value.long xcode, Value.long xreadLow, Value.long xreadRange, Value.ref ri, Value.ref ro, Value.ref rw, Value.int xasked])), (oo, Sum.inr (7, [Value.int osg, Value.int (osm + v_5), Value.int ofc, Value.ref oca, Value.ref opa])), (oca, Sum.inl (cI, n, Sum.inl ocfq_35)), (opa, Sum.inl (cI, opl, Sum.inl opf))] H := ⟨hP, hD⟩
    have hP := hPD.1
    have hD := hPD.2
    exact my_vret hx hb hr hlocks hQ hK hS (Nat.le_refl _) (Nat.le_refl _) (osm + v_5, ocfq_35) (by rw [hc_35, hp, hgv]) (hP.sub [0, 1, 2, 3] rfl) (hD.sub [0, 1, 2, 3] (by decide +kernel) rfl) d_Bits_adapt_38
set_option maxHeartbeats 2000000 in
set_option maxRecDepth 100000 in
theorem f_Bits_writeBit (l : Launch) (dC : Nat → ClassId) (dI : Nat → Nat → Nat) (cI cM cO : ClassId) (sz : Nat) (sl : Nat) (co : Nat) (xkeptCode : Int64) (xkeptRange : Int64) (xkeptAsked : Int32) (xcode : Int64) (xreadLow : Int64) (xreadRange : Int64) (ri : Nat) (ro : Nat) (rw : Nat) (xasked : Int32) (Rg : Nat) (L : Nat) (ca : Option Nat) (Pn : Nat) (rwa : Nat) (rwk : Nat) (rwf : Nat → Int32) (bs : List Nat) (oo : Nat) (osg : Int32) (ofc : Int32) (oca : Nat) (opa : Nat) (n : Nat) (ocf : Nat → Int32) (opl : Nat) (opf : Nat → Int32) (osm : Int32) (nd : Nat) (pp : Nat) (bt : Nat) (sh : Nat) (hn : n ≤ 64) (hpl : opl ≤ 512) (hnd0 : 1 ≤ nd) (hnd : nd < n) (hofc : ofc = 1) (hp : ocf nd = nI pp) (hp1 : 1 ≤ pp) (hp2 : pp ≤ 2047) (hsh : sh ≤ 10) (hbt : bt < 2) (hE : eInv (Rg, L, ca, Pn, bs)) (hrw : rOk (nI bs.length) rwk) (hGrw : gIs rwf bs) (hN9 : bs.length + Pn + 4 ≤ 7900) : MetVg l y_Bits_writeBit (Cond.code y_Bits_writeBit prog_2_method_10_code 6 none :: gw) ({ frames := 6, cells := rPh rwk, slots := rPh rwk, locals := 146 } : Room) (dC, dI) vwCl (kT cI cM cO) [Value.ref co, Value.ref oo, Value.int (nI nd), Value.int (nI bt)] [(co, Sum.inr (3, [Value.int (nI sh), Value.long xkeptCode, Value.long xkeptRange, Value.int xkeptAsked, Value.int (caI ca), Value.int (nI Pn), Value.long (lN L), Value.long (lN Rg), Value.long xcode, Value.long xreadLow, Value.long xreadRange, Value.ref ri, Value.ref ro, Value.ref rw, Value.int xasked])), (rw, Sum.inr (0, [Value.int (nI bs.length), Value.ref rwa])), (rwa, Sum.inl (cI, rwk, Sum.inl rwf)), (oo, Sum.inr (7, [Value.int osg, Value.int osm, Value.int ofc, Value.ref oca, Value.ref opa])), (oca, Sum.inl (cI, n, Sum.inl ocf)), (opa, Sum.inl (cI, opl, Sum.inl opf))] sz sl (fun (u : Nat × Nat × (Nat → Int32) × Int32 × (Nat → Int32)) => rOk (nI (eB (wdS (btS pp bt Rg L ca Pn bs))).length) u.2.1 ∧ gIs u.2.2.1 (eB (wdS (btS pp bt Rg L ca Pn bs))) ∧ u.2.2.2.2 = upd ocf nd (nI (mvC sh bt pp))) (fun (u : Nat × Nat × (Nat → Int32) × Int32 × (Nat → Int32)) => [(co, Sum.inr (3, [Value.int (nI sh), Value.long xkeptCode, Value.long xkeptRange, Value.int xkeptAsked, Value.int (caI (eC (wdS (btS pp bt Rg L ca Pn bs)))), Value.int (nI (eP (wdS (btS pp bt Rg L ca Pn bs)))), Value.long (lN (eL (wdS (btS pp bt Rg L ca Pn bs)))), Value.long (lN (eR (wdS (btS pp bt Rg L ca Pn bs)))), Value.long xcode, Value.long xreadLow, Value.long xreadRange, Value.ref ri, Value.ref ro, Value.ref rw, Value.int xasked])), (rw, Sum.inr (0, [Value.int (nI (eB (wdS (btS pp bt Rg L ca Pn bs))).length), Value.ref u.1])), (u.1, Sum.inl (cI, u.2.1, Sum.inl u.2.2.1)), (oo, Sum.inr (7, [Value.int osg, Value.int u.2.2.2.1, Value.int ofc, Value.ref oca, Value.ref opa])), (oca, Sum.inl (cI, n, Sum.inl u.2.2.2.2)), (opa, Sum.inl (cI, opl, Sum.inl opf))]) (rPh rwk) (fun (u : Nat × Nat × (Nat → Int32) × Int32 × (Nat → Int32)) => rPh u.2.1) := by
  refine my_ofVg (cc := prog_2_method_10_code) (n := 6) (ret := none) (by decide) rfl (Nat.le_of_ble_eq_true rfl) ?_
  intro p e s m args below meth c R Q A ls H locs hx hb hr hts hown hlocks hml hnm hR hQ hA hl hP hK hN hD hS
  have hg : ∀ w ∈ gw, w.before args s = true := fun w h => hts w (List.mem_cons_of_mem _ h)
  have hown : s.vm.findClass "RangeCoders$Bits" = some m.cls := hown
  have hl : lv_has ls 6 [(0, Value.ref co), (1, Value.ref oo), (2, Value.int (nI nd)), (3, Value.int (nI bt))] := hl
  have hltw := rOk_lt hrw
  obtain ⟨hI1, hI2, hI3, hI4⟩ := id hE
  simp only [eR, eL, eC] at hI1 hI2 hI3 hI4
  have hq1 : 8192 ≤ Rg / 2048 := by omega
  have hq2 : Rg / 2048 * pp ≤ Rg / 2048 * 2047 := Nat.mul_le_mul_left _ hp2
  have hq3 : Rg / 2048 * 1 ≤ Rg / 2048 * pp := Nat.mul_le_mul_left _ hp1
  generalize hb9 : Rg / 2048 * pp = bb at hq2 hq3
  refine lv_aload_n hx hb d_Bits_writeBit_0 rfl (lv_at hl 0 rfl) ?_
  refine va_get (D := (dC, dI)) (ci := 3) (v := .long (lN Rg)) (C := "RangeCoders$Bits") (T := T_Bits) (N := 15) hx hb hg in_Bits hown hK hP 0 rfl rfl 7 (by decide) (hg _ k82) (fun x9 h9 => u_same (hg _ k83) x9 h9) rfl d_Bits_writeBit_1 ?_
  refine lv_bipush (v := 11) hx hb d_Bits_writeBit_4 (by decide) ?_
  refine lv_lushr hx hb d_Bits_writeBit_6 rfl ?_
  refine lv_topl (fun v_1 ev_1 => ?_)
  refine lv_aload_n hx hb d_Bits_writeBit_7 rfl (lv_at hl 1 rfl) ?_
  refine lv_iload_n hx hb d_Bits_writeBit_8 rfl (lv_at hl 2 rfl) ?_
  refine my_ci (wr := [(co, Sum.inr (3, [Value.int (nI sh), Value.long xkeptCode, Value.long xkeptRange, Value.int xkeptAsked, Value.int (caI ca), Value.int (nI Pn), Value.long (lN L), Value.long (lN Rg), Value.long xcode, Value.long xreadLow, Value.long xreadRange, Value.ref ri, Value.ref ro, Value.ref rw, Value.int xasked])), (rw, Sum.inr (0, [Value.int (nI bs.length), Value.ref rwa])), (rwa, Sum.inl (cI, rwk, Sum.inl rwf))]) (va_runV (As := [Value.int (nI nd)]) (rest := [Value.long v_1]) ⟨hx, hb, hml, hown, hts⟩ (f_Odds_at l dC dI cI cM cO H.size oo osg ofc oca opa n ocf opl opf osm nd (by first | assumption | omega) (by first | assumption | omega) (hnd) (by rw [hofc]; exact nI_le (a := 1) hnd0 (by omega))) (cwV 1 hts (my_gV k449 k436 k437 k14 k438) rfl rfl rfl cu_Odds_at_1 ⟨by rw [hR]; exact Nat.le_of_ble_eq_true rfl, by rw [hR]; exact Nat.le_of_ble_eq_true rfl⟩) (my_preV hK hN (hP.sub [3, 4, 5] rfl) (hD.sub [3, 4, 5] (by decide +kernel) rfl) 0 rfl rfl) rfl rfl hl.1 rfl (lv_room (Nat.le_of_ble_eq_true rfl)) d_Bits_writeBit_9 ⟨by rw [hR]; exact (show 0 + 0 ≤ (rPh rwk) by omega), by rw [hR]; exact (show 0 + 0 ≤ (rPh rwk) by omega)⟩) hP hD hS hA [3, 4, 5] [0, 1, 2] rfl rfl (by decide +kernel) (by decide +kernel) (fun r_9 u9 H locs hw_9 hP hD hS => ?_)
  have hr_9 : r_9 = ocf nd := hw_9
  have hPD : my_PD (dC, dI) vwCl A [(co, Sum.inr (3, [Value.int (nI sh), Value.long xkeptCode, Value.long xkeptRange, Value.int xkeptAsked, Value.int (caI ca), Value.int (nI Pn), Value.long (lN L), Value.long (lN Rg), Value.long xcode, Value.long xreadLow, Value.long xreadRange, Value.ref ri, Value.ref ro, Value.ref rw, Value.int xasked])), (rw, Sum.inr (0, [Value.int (nI bs.length), Value.ref rwa])), (rwa, Sum.inl (cI, rwk, Sum.inl rwf)), (oo, Sum.inr (7, [Value.int osg, Value.int osm, Value.int ofc, Value.ref oca, Value.ref opa])), (oca, Sum.inl (cI, n, Sum.inl ocf)), (opa, Sum.inl (cI, opl, Sum.inl opf))] H := ⟨hP, hD⟩
  have hP := hPD.1
  have hD := hPD.2
  rw [hp] at hr_9
  have z9 : r_9 = nI pp := hr_9
  subst z9
  refine lv_i2l hx hb d_Bits_writeBit_12 rfl ?_
  refine lv_topl (fun v_2 ev_2 => ?_)
  refine lv_lmul hx hb d_Bits_writeBit_13 ?_
  refine lv_topl (fun v_3 ev_3 => ?_)
  have z9 : v_3 = lN bb := by subst_vars; rw [U_shr11 (by omega), nI_l (by omega), lN_mul]
  subst z9
  refine lv_lstore (lv' := [(4, Value.long (lN bb)), (0, Value.ref co), (1, Value.ref oo), (2, Value.int (nI nd)), (3, Value.int (nI bt))]) hx hb d_Bits_writeBit_14 hl (by decide) rfl (fun ls hl => ?_)
  refine lv_iload_n hx hb d_Bits_writeBit_16 rfl (lv_at hl 4 rfl) ?_
  refine lv_if_ne (tgt := 29) hx hb d_Bits_writeBit_17 (by decide) (fun c_4 => ?_) (fun c_4 => ?_)
  · refine lv_aload_n hx hb d_Bits_writeBit_29 rfl (lv_at hl 1 rfl) ?_
    refine lv_dup hx hb d_Bits_writeBit_30 rfl ?_
    refine va_get (D := (dC, dI)) (ci := 3) (v := .long (lN L)) (C := "RangeCoders$Bits") (T := T_Bits) (N := 15) hx hb hg in_Bits hown hK hP 0 rfl rfl 6 (by decide) (hg _ k75) (fun x9 h9 => u_same (hg _ k76) x9 h9) rfl d_Bits_writeBit_31 ?_
    refine lv_lload hx hb d_Bits_writeBit_34 (lv_at hl 0 rfl) ?_
    refine lv_ladd hx hb d_Bits_writeBit_36 ?_
    refine lv_topl (fun v_5 ev_5 => ?_)
    have z9 : v_5 = lN (L + bb) := by rw [ev_5]; exact lN_add _ _
    subst z9
    refine va_put (D := (dC, dI)) (ci := 3) (v := .long (lN (L + bb))) (ty := .long) (C := "RangeCoders$Bits") (T := T_Bits) (N := 15) hx hb hg in_Bits t_Bits o_Bits n_Bits hown hK hP hD hS 0 rfl rfl 6 (by decide) (hg _ k75) (fun x9 h9 => u_same (hg _ k76) x9 h9) rfl (o_Bits 6 (by decide)) rfl rfl (Nat.le_of_ble_eq_true rfl) d_Bits_writeBit_37 (fun H locs hP hD hS => ?_)
    have hPD : my_PD (dC, dI) vwCl A [(co, Sum.inr (3, [Value.int (nI sh), Value.long xkeptCode, Value.long xkeptRange, Value.int xkeptAsked, Value.int (caI ca), Value.int (nI Pn), Value.long (lN (L + bb)), Value.long (lN Rg), Value.long xcode, Value.long xreadLow, Value.long xreadRange, Value.ref ri, Value.ref ro, Value.ref rw, Value.int xasked])), (rw, Sum.inr (0, [Value.int (nI bs.length), Value.ref rwa])), (rwa, Sum.inl (cI, rwk, Sum.inl rwf)), (oo, Sum.inr (7, [Value.int osg, Value.int osm, Value.int ofc, Value.ref oca, Value.ref opa])), (oca, Sum.inl (cI, n, Sum.inl ocf)), (opa, Sum.inl (cI, opl, Sum.inl opf))] H := ⟨hP, hD⟩
    have hP := hPD.1
    have hD := hPD.2
    refine lv_aload_n hx hb d_Bits_writeBit_40 rfl (lv_at hl 1 rfl) ?_
    refine lv_dup hx hb d_Bits_writeBit_41 rfl ?_
    refine va_get (D := (dC, dI)) (ci := 3) (v := .long (lN Rg)) (C := "RangeCoders$Bits") (T := T_Bits) (N := 15) hx hb hg in_Bits hown hK hP 0 rfl rfl 7 (by decide) (hg _ k82) (fun x9 h9 => u_same (hg _ k83) x9 h9) rfl d_Bits_writeBit_42 ?_
    refine lv_lload hx hb d_Bits_writeBit_45 (lv_at hl 0 rfl) ?_
    refine lv_lsub hx hb d_Bits_writeBit_47 ?_
    refine lv_topl (fun v_6 ev_6 => ?_)
    have z9 : v_6 = lN (Rg - bb) := by rw [ev_6]; exact lN_sub (by omega)
    subst z9
    refine va_put (D := (dC, dI)) (ci := 3) (v := .long (lN (Rg - bb))) (ty := .long) (C := "RangeCoders$Bits") (T := T_Bits) (N := 15) hx hb hg in_Bits t_Bits o_Bits n_Bits hown hK hP hD hS 0 rfl rfl 7 (by decide) (hg _ k82) (fun x9 h9 => u_same (hg _ k83) x9 h9) rfl (o_Bits 7 (by decide)) rfl rfl (Nat.le_of_ble_eq_true rfl) d_Bits_writeBit_48 (fun H locs hP hD hS => ?_)
    have hPD : my_PD (dC, dI) vwCl A [(co, Sum.inr (3, [Value.int (nI sh), Value.long xkeptCode, Value.long xkeptRange, Value.int xkeptAsked, Value.int (caI ca), Value.int (nI Pn), Value.long (lN (L + bb)), Value.long (lN (Rg - bb)), Value.long xcode, Value.long xreadLow, Value.long xreadRange, Value.ref ri, Value.ref ro, Value.ref rw, Value.int xasked])), (rw, Sum.inr (0, [Value.int (nI bs.length), Value.ref rwa])), (rwa, Sum.inl (cI, rwk, Sum.inl rwf)), (oo, Sum.inr (7, [Value.int osg, Value.int osm, Value.int ofc, Value.ref oca, Value.ref opa])), (oca, Sum.inl (cI, n, Sum.inl ocf)), (opa, Sum.inl (cI, opl, Sum.inl opf))] H := ⟨hP, hD⟩
    have hP := hPD.1
    have hD := hPD.2
    refine lv_aload_n hx hb d_Bits_writeBit_51 rfl (lv_at hl 1 rfl) ?_
    refine lv_aload_n hx hb d_Bits_writeBit_52 rfl (lv_at hl 2 rfl) ?_
    refine lv_iload_n hx hb d_Bits_writeBit_53 rfl (lv_at hl 3 rfl) ?_
    refine lv_iload_n hx hb d_Bits_writeBit_54 rfl (lv_at hl 4 rfl) ?_
    refine my_cv (wr := [(rw, Sum.inr (0, [Value.int (nI bs.length), Value.ref rwa])), (rwa, Sum.inl (cI, rwk, Sum.inl rwf))]) (va_runV (As := [Value.ref oo, Value.int (nI nd), Value.int (nI bt)]) (rest := []) ⟨hx, hb, hml, hown, hts⟩ (f_Bits_adapt l dC dI cI cM cO H.size co xkeptCode xkeptRange xkeptAsked (caI ca) (nI Pn) (lN (L + bb)) (lN (Rg - bb)) xcode xreadLow xreadRange ri ro rw xasked oo osg ofc oca opa n ocf opl opf osm nd pp bt sh (by first | assumption | omega) (by first | assumption | omega) (by first | assumption | omega) (by first | assumption | omega) (by first | assumption | omega) (by first | assumption | omega) (by omega) (by first | assumption | omega) (by first | assumption | omega)) (cwV 3 hts (my_gV k450 k452 ks5 k8 k453) rfl rfl rfl cu_Bits_adapt_3 ⟨by rw [hR]; exact Nat.le_of_ble_eq_true rfl, by rw [hR]; exact Nat.le_of_ble_eq_true rfl⟩) (my_preV hK hN (hP.sub [0, 3, 4, 5] rfl) (hD.sub [0, 3, 4, 5] (by decide +kernel) rfl) 0 rfl rfl) rfl rfl hl.1 rfl (lv_room (Nat.le_of_ble_eq_true rfl)) d_Bits_writeBit_55 ⟨by rw [hR]; exact (show 0 + 0 ≤ (rPh rwk) by omega), by rw [hR]; exact (show 0 + 0 ≤ (rPh rwk) by omega)⟩) hP hD hS hA [0, 3, 4, 5] [1, 2] rfl rfl (by decide +kernel) (by decide +kernel) (fun u9 H locs hw_55 hP hD hS => ?_)
    obtain ⟨osmq_55, ocfq_55⟩ := u9
    have hc_55 : ocfq_55 = upd ocf nd (nI (mvC sh bt pp)) := hw_55
    have hPD : my_PD (dC, dI) vwCl A [(rw, Sum.inr (0, [Value.int (nI bs.length), Value.ref rwa])), (rwa, Sum.inl (cI, rwk, Sum.inl rwf)), (co, Sum.inr (3, [Value.int (nI sh), Value.long xkeptCode, Value.long xkeptRange, Value.int xkeptAsked, Value.int (caI ca), Value.int (nI Pn), Value.long (lN (L + bb)), Value.long (lN (Rg - bb)), Value.long xcode, Value.long xreadLow, Value.long xreadRange, Value.ref ri, Value.ref ro, Value.ref rw, Value.int xasked])), (oo, Sum.inr (7, [Value.int osg, Value.int osmq_55, Value.int ofc, Value.ref oca, Value.ref opa])), (oca, Sum.inl (cI, n, Sum.inl ocfq_55)), (opa, Sum.inl (cI, opl, Sum.inl opf))] H := ⟨hP, hD⟩
    have hP := hPD.1
    have hD := hPD.2
    refine lv_aload_n hx hb d_Bits_writeBit_58 rfl (lv_at hl 1 rfl) ?_
    refine my_cvg (wr := [(oo, Sum.inr (7, [Value.int osg, Value.int osmq_55, Value.int ofc, Value.ref oca, Value.ref opa])), (oca, Sum.inl (cI, n, Sum.inl ocfq_55)), (opa, Sum.inl (cI, opl, Sum.inl opf))]) (va_runU (As := []) (rest := []) ⟨hx, hb, hml, hown, hts⟩ (f_Bits_widen l dC dI cI cM cO H.size (hSl H) co (nI sh) xkeptCode xkeptRange xkeptAsked xcode xreadLow xreadRange ri ro rw xasked (Rg - bb) (L + bb) ca Pn rwa rwk rwf bs (by omega) (by omega) (by omega) (hI4) (by first | assumption | omega) (by first | assumption | omega) (by first | assumption | omega)) (va_cwU 0 hts (my_gU k455 k456 k458 k459 k5 k460) rfl rfl rfl rfl (by decide +kernel) ⟨by rw [hR]; exact Nat.le_of_ble_eq_true rfl, by rw [hR]; exact Nat.le_of_ble_eq_true rfl⟩) (my_preVg hK hN (hP.sub [2, 0, 1] rfl) (hD.sub [2, 0, 1] (by decide +kernel) rfl) 0 rfl rfl) rfl rfl hl.1 rfl (lv_room (Nat.le_of_ble_eq_true rfl)) d_Bits_writeBit_59 ⟨by rw [hR]; exact (show 0 + (rPh rwk) ≤ (rPh rwk) by omega), by rw [hR]; exact (show 0 + (rPh rwk) ≤ (rPh rwk) by omega)⟩) hP hD hS hA [2, 0, 1] [3, 4, 5] rfl rfl (by decide +kernel) (by decide +kernel) (fun u9 d_59 H locs hd_59 hw_59 hP hD hS => ?_)
    obtain ⟨rwaq_59, rwkq_59, rwfq_59⟩ := u9
    obtain ⟨hrw_59, hGrw_59⟩ : rOk (nI (eB (wdS ((Rg - bb), (L + bb), ca, Pn, bs))).length) rwkq_59 ∧ gIs rwfq_59 (eB (wdS ((Rg - bb), (L + bb), ca, Pn, bs))) := hw_59
    have hd_59 : d_59 + (rPh rwkq_59) ≤ (rPh rwk) := hd_59
    have hPD : my_PD (dC, dI) vwCl A [(oo, Sum.inr (7, [Value.int osg, Value.int osmq_55, Value.int ofc, Value.ref oca, Value.ref opa])), (oca, Sum.inl (cI, n, Sum.inl ocfq_55)), (opa, Sum.inl (cI, opl, Sum.inl opf)), (co, Sum.inr (3, [Value.int (nI sh), Value.long xkeptCode, Value.long xkeptRange, Value.int xkeptAsked, Value.int (caI (eC (wdS ((Rg - bb), (L + bb), ca, Pn, bs)))), Value.int (nI (eP (wdS ((Rg - bb), (L + bb), ca, Pn, bs)))), Value.long (lN (eL (wdS ((Rg - bb), (L + bb), ca, Pn, bs)))), Value.long (lN (eR (wdS ((Rg - bb), (L + bb), ca, Pn, bs)))), Value.long xcode, Value.long xreadLow, Value.long xreadRange, Value.ref ri, Value.ref ro, Value.ref rw, Value.int xasked])), (rw, Sum.inr (0, [Value.int (nI (eB (wdS ((Rg - bb), (L + bb), ca, Pn, bs))).length), Value.ref rwaq_59])), (rwaq_59, Sum.inl (cI, rwkq_59, Sum.inl rwfq_59))] H := ⟨hP, hD⟩
    have hP := hPD.1
    have hD := hPD.2
    have hbt9 : ((Rg - bb), (L + bb), ca, Pn, bs) = btS pp bt Rg L ca Pn bs := by unfold btS; rw [if_neg (fun q => c_4 (by rw [q]; rfl)), hb9]
    rw [hbt9] at hP hD hrw_59 hGrw_59
    have hPD : my_PD (dC, dI) vwCl A [(oo, Sum.inr (7, [Value.int osg, Value.int osmq_55, Value.int ofc, Value.ref oca, Value.ref opa])), (oca, Sum.inl (cI, n, Sum.inl ocfq_55)), (opa, Sum.inl (cI, opl, Sum.inl opf)), (co, Sum.inr (3, [Value.int (nI sh), Value.long xkeptCode, Value.long xkeptRange, Value.int xkeptAsked, Value.int (caI (eC (wdS (btS pp bt Rg L ca Pn bs)))), Value.int (nI (eP (wdS (btS pp bt Rg L ca Pn bs)))), Value.long (lN (eL (wdS (btS pp bt Rg L ca Pn bs)))), Value.long (lN (eR (wdS (btS pp bt Rg L ca Pn bs)))), Value.long xcode, Value.long xreadLow, Value.long xreadRange, Value.ref ri, Value.ref ro, Value.ref rw, Value.int xasked])), (rw, Sum.inr (0, [Value.int (nI (eB (wdS (btS pp bt Rg L ca Pn bs))).length), Value.ref rwaq_59])), (rwaq_59, Sum.inl (cI, rwkq_59, Sum.inl rwfq_59))] H := ⟨hP, hD⟩
    have hP := hPD.1
    have hD := hPD.2
    exact my_vretg hx hb hr hlocks hQ hK hS (rwaq_59, rwkq_59, rwfq_59, osmq_55, ocfq_55) (show (0 + d_59) + (rPh rwkq_59) ≤ (rPh rwk) by omega) (show (0 + d_59) + (rPh rwkq_59) ≤ (rPh rwk) by omega) (⟨hrw_59, hGrw_59, hc_55⟩) (hP.sub [3, 4, 5, 0, 1, 2] rfl) (hD.sub [3, 4, 5, 0, 1, 2] (by decide +kernel) rfl) d_Bits_writeBit_62
  · refine lv_aload_n hx hb d_Bits_writeBit_20 rfl (lv_at hl 1 rfl) ?_
    refine lv_lload hx hb d_Bits_writeBit_21 (lv_at hl 0 rfl) ?_
    refine va_put (D := (dC, dI)) (ci := 3) (v := .long (lN bb)) (ty := .long) (C := "RangeCoders$Bits") (T := T_Bits) (N := 15) hx hb hg in_Bits t_Bits o_Bits n_Bits hown hK hP hD hS 0 rfl rfl 7 (by decide) (hg _ k82) (fun x9 h9 => u_same (hg _ k83) x9 h9) rfl (o_Bits 7 (by decide)) rfl rfl (Nat.le_of_ble_eq_true rfl) d_Bits_writeBit_23 (fun H locs hP hD hS => ?_)
    have hPD : my_PD (dC, dI) vwCl A [(co, Sum.inr (3, [Value.int (nI sh), Value.long xkeptCode, Value.long xkeptRange, Value.int xkeptAsked, Value.int (caI ca), Value.int (nI Pn), Value.long (lN L), Value.long (lN bb), Value.long xcode, Value.long xreadLow, Value.long xreadRange, Value.ref ri, Value.ref ro, Value.ref rw, Value.int xasked])), (rw, Sum.inr (0, [Value.int (nI bs.length), Value.ref rwa])), (rwa, Sum.inl (cI, rwk, Sum.inl rwf)), (oo, Sum.inr (7, [Value.int osg, Value.int osm, Value.int ofc, Value.ref oca, Value.ref opa])), (oca, Sum.inl (cI, n, Sum.inl ocf)), (opa, Sum.inl (cI, opl, Sum.inl opf))] H := ⟨hP, hD⟩
    have hP := hPD.1
    have hD := hPD.2
    refine lv_goto (tgt := 51) hx hb d_Bits_writeBit_26 (by decide) ?_
    refine lv_aload_n hx hb d_Bits_writeBit_51 rfl (lv_at hl 1 rfl) ?_
    refine lv_aload_n hx hb d_Bits_writeBit_52 rfl (lv_at hl 2 rfl) ?_
    refine lv_iload_n hx hb d_Bits_writeBit_53 rfl (lv_at hl 3 rfl) ?_
    refine lv_iload_n hx hb d_Bits_writeBit_54 rfl (lv_at hl 4 rfl) ?_
    refine my_cv (wr := [(rw, Sum.inr (0, [Value.int (nI bs.length), Value.ref rwa])), (rwa, Sum.inl (cI, rwk, Sum.inl rwf))]) (va_runV (As := [Value.ref oo, Value.int (nI nd), Value.int (nI bt)]) (rest := []) ⟨hx, hb, hml, hown, hts⟩ (f_Bits_adapt l dC dI cI cM cO H.size co xkeptCode xkeptRange xkeptAsked (caI ca) (nI Pn) (lN L) (lN bb) xcode xreadLow xreadRange ri ro rw xasked oo osg ofc oca opa n ocf opl opf osm nd pp bt sh (by first | assumption | omega) (by first | assumption | omega) (by first | assumption | omega) (by first | assumption | omega) (by first | assumption | omega) (by first | assumption | omega) (by omega) (by first | assumption | omega) (by first | assumption | omega)) (cwV 3 hts (my_gV k450 k452 ks5 k8 k453) rfl rfl rfl cu_Bits_adapt_3 ⟨by rw [hR]; exact Nat.le_of_ble_eq_true rfl, by rw [hR]; exact Nat.le_of_ble_eq_true rfl⟩) (my_preV hK hN (hP.sub [0, 3, 4, 5] rfl) (hD.sub [0, 3, 4, 5] (by decide +kernel) rfl) 0 rfl rfl) rfl rfl hl.1 rfl (lv_room (Nat.le_of_ble_eq_true rfl)) d_Bits_writeBit_55 ⟨by rw [hR]; exact (show 0 + 0 ≤ (rPh rwk) by omega), by rw [hR]; exact (show 0 + 0 ≤ (rPh rwk) by omega)⟩) hP hD hS hA [0, 3, 4, 5] [1, 2] rfl rfl (by decide +kernel) (by decide +kernel) (fun u9 H locs hw_55 hP hD hS => ?_)
    obtain ⟨osmq_55, ocfq_55⟩ := u9
    have hc_55 : ocfq_55 = upd ocf nd (nI (mvC sh bt pp)) := hw_55
    have hPD : my_PD (dC, dI) vwCl A [(rw, Sum.inr (0, [Value.int (nI bs.length), Value.ref rwa])), (rwa, Sum.inl (cI, rwk, Sum.inl rwf)), (co, Sum.inr (3, [Value.int (nI sh), Value.long xkeptCode, Value.long xkeptRange, Value.int xkeptAsked, Value.int (caI ca), Value.int (nI Pn), Value.long (lN L), Value.long (lN bb), Value.long xcode, Value.long xreadLow, Value.long xreadRange, Value.ref ri, Value.ref ro, Value.ref rw, Value.int xasked])), (oo, Sum.inr (7, [Value.int osg, Value.int osmq_55, Value.int ofc, Value.ref oca, Value.ref opa])), (oca, Sum.inl (cI, n, Sum.inl ocfq_55)), (opa, Sum.inl (cI, opl, Sum.inl opf))] H := ⟨hP, hD⟩
    have hP := hPD.1
    have hD := hPD.2
    refine lv_aload_n hx hb d_Bits_writeBit_58 rfl (lv_at hl 1 rfl) ?_
    refine my_cvg (wr := [(oo, Sum.inr (7, [Value.int osg, Value.int osmq_55, Value.int ofc, Value.ref oca, Value.ref opa])), (oca, Sum.inl (cI, n, Sum.inl ocfq_55)), (opa, Sum.inl (cI, opl, Sum.inl opf))]) (va_runU (As := []) (rest := []) ⟨hx, hb, hml, hown, hts⟩ (f_Bits_widen l dC dI cI cM cO H.size (hSl H) co (nI sh) xkeptCode xkeptRange xkeptAsked xcode xreadLow xreadRange ri ro rw xasked bb L ca Pn rwa rwk rwf bs (by omega) (by omega) (by omega) (hI4) (by first | assumption | omega) (by first | assumption | omega) (by first | assumption | omega)) (va_cwU 0 hts (my_gU k455 k456 k458 k459 k5 k460) rfl rfl rfl rfl (by decide +kernel) ⟨by rw [hR]; exact Nat.le_of_ble_eq_true rfl, by rw [hR]; exact Nat.le_of_ble_eq_true rfl⟩) (my_preVg hK hN (hP.sub [2, 0, 1] rfl) (hD.sub [2, 0, 1] (by decide +kernel) rfl) 0 rfl rfl) rfl rfl hl.1 rfl (lv_room (Nat.le_of_ble_eq_true rfl)) d_Bits_writeBit_59 ⟨by rw [hR]; exact (show 0 + (rPh rwk) ≤ (rPh rwk) by omega), by rw [hR]; exact (show 0 + (rPh rwk) ≤ (rPh rwk) by omega)⟩) hP hD hS hA [2, 0, 1] [3, 4, 5] rfl rfl (by decide +kernel) (by decide +kernel) (fun u9 d_59 H locs hd_59 hw_59 hP hD hS => ?_)
    obtain ⟨rwaq_59, rwkq_59, rwfq_59⟩ := u9
    obtain ⟨hrw_59, hGrw_59⟩ : rOk (nI (eB (wdS (bb, L, ca, Pn, bs))).length) rwkq_59 ∧ gIs rwfq_59 (eB (wdS (bb, L, ca, Pn, bs))) := hw_59
    have hd_59 : d_59 + (rPh rwkq_59) ≤ (rPh rwk) := hd_59
    have hPD : my_PD (dC, dI) vwCl A [(oo, Sum.inr (7, [Value.int osg, Value.int osmq_55, Value.int ofc, Value.ref oca, Value.ref opa])), (oca, Sum.inl (cI, n, Sum.inl ocfq_55)), (opa, Sum.inl (cI, opl, Sum.inl opf)), (co, Sum.inr (3, [Value.int (nI sh), Value.long xkeptCode, Value.long xkeptRange, Value.int xkeptAsked, Value.int (caI (eC (wdS (bb, L, ca, Pn, bs)))), Value.int (nI (eP (wdS (bb, L, ca, Pn, bs)))), Value.long (lN (eL (wdS (bb, L, ca, Pn, bs)))), Value.long (lN (eR (wdS (bb, L, ca, Pn, bs)))), Value.long xcode, Value.long xreadLow, Value.long xreadRange, Value.ref ri, Value.ref ro, Value.ref rw, Value.int xasked])), (rw, Sum.inr (0, [Value.int (nI (eB (wdS (bb, L, ca, Pn, bs))).length), Value.ref rwaq_59])), (rwaq_59, Sum.inl (cI, rwkq_59, Sum.inl rwfq_59))] H := ⟨hP, hD⟩
    have hP := hPD.1
    have hD := hPD.2
    have hbt9 : (bb, L, ca, Pn, bs) = btS pp bt Rg L ca Pn bs := by unfold btS; rw [if_pos ((nI_eq (b := 0) (by omega) (by decide)).mp c_4), hb9]
    rw [hbt9] at hP hD hrw_59 hGrw_59
    have hPD : my_PD (dC, dI) vwCl A [(oo, Sum.inr (7, [Value.int osg, Value.int osmq_55, Value.int ofc, Value.ref oca, Value.ref opa])), (oca, Sum.inl (cI, n, Sum.inl ocfq_55)), (opa, Sum.inl (cI, opl, Sum.inl opf)), (co, Sum.inr (3, [Value.int (nI sh), Value.long xkeptCode, Value.long xkeptRange, Value.int xkeptAsked, Value.int (caI (eC (wdS (btS pp bt Rg L ca Pn bs)))), Value.int (nI (eP (wdS (btS pp bt Rg L ca Pn bs)))), Value.long (lN (eL (wdS (btS pp bt Rg L ca Pn bs)))), Value.long (lN (eR (wdS (btS pp bt Rg L ca Pn bs)))), Value.long xcode, Value.long xreadLow, Value.long xreadRange, Value.ref ri, Value.ref ro, Value.ref rw, Value.int xasked])), (rw, Sum.inr (0, [Value.int (nI (eB (wdS (btS pp bt Rg L ca Pn bs))).length), Value.ref rwaq_59])), (rwaq_59, Sum.inl (cI, rwkq_59, Sum.inl rwfq_59))] H := ⟨hP, hD⟩
    have hP := hPD.1
    have hD := hPD.2
    exact my_vretg hx hb hr hlocks hQ hK hS (rwaq_59, rwkq_59, rwfq_59, osmq_55, ocfq_55) (show (0 + d_59) + (rPh rwkq_59) ≤ (rPh rwk) by omega) (show (0 + d_59) + (rPh rwkq_59) ≤ (rPh rwk) by omega) (⟨hrw_59, hGrw_59, hc_55⟩) (hP.sub [3, 4, 5, 0, 1, 2] rfl) (hD.sub [3, 4, 5, 0, 1, 2] (by decide +kernel) rfl) d_Bits_writeBit_62
set_option maxHeartbeats 2000000 in
set_option maxRecDepth 100000 in
theorem f_Bits_writeSign (l : Launch) (dC : Nat → ClassId) (dI : Nat → Nat → Nat) (cI cM cO : ClassId) (sz : Nat) (sl : Nat) (co : Nat) (xkeptCode : Int64) (xkeptRange : Int64) (xkeptAsked : Int32) (xcode : Int64) (xreadLow : Int64) (xreadRange : Int64) (ri : Nat) (ro : Nat) (rw : Nat) (xasked : Int32) (Rg : Nat) (L : Nat) (ca : Option Nat) (Pn : Nat) (rwa : Nat) (rwk : Nat) (rwf : Nat → Int32) (bs : List Nat) (oo : Nat) (ofc : Int32) (oca : Nat) (opa : Nat) (n : Nat) (ocf : Nat → Int32) (opl : Nat) (opf : Nat → Int32) (osm : Int32) (sg : Nat) (t : Nat) (C : Nat → Nat) (sh : Nat) (lv : Nat) (hn : n ≤ 64) (hpl : opl ≤ 512) (hs9 : 2 ≤ sg) (hs8 : sg ≤ 64) (hlv : lv = lev sg) (hnl : n = 2 ^ lv) (ht : t < sg) (hofc : ofc = 1) (hf : tbI ocf n C) (hC : ∀ k, k < 64 → 1 ≤ C k ∧ C k ≤ 2047) (hs1 : 1 ≤ sh) (hs2 : sh ≤ 10) (hE : eInv (Rg, L, ca, Pn, bs)) (hrw : rOk (nI bs.length) rwk) (hGrw : gIs rwf bs) (hN9 : bs.length + Pn + 20 ≤ 7900) : MetVg l y_Bits_writeSign (Cond.code y_Bits_writeSign prog_2_method_5_code 6 none :: gw) ({ frames := 7, cells := rPh rwk, slots := rPh rwk, locals := 171 } : Room) (dC, dI) vwCl (kT cI cM cO) [Value.ref co, Value.ref oo, Value.int (nI t)] [(co, Sum.inr (3, [Value.int (nI sh), Value.long xkeptCode, Value.long xkeptRange, Value.int xkeptAsked, Value.int (caI ca), Value.int (nI Pn), Value.long (lN L), Value.long (lN Rg), Value.long xcode, Value.long xreadLow, Value.long xreadRange, Value.ref ri, Value.ref ro, Value.ref rw, Value.int xasked])), (rw, Sum.inr (0, [Value.int (nI bs.length), Value.ref rwa])), (rwa, Sum.inl (cI, rwk, Sum.inl rwf)), (oo, Sum.inr (7, [Value.int (nI sg), Value.int osm, Value.int ofc, Value.ref oca, Value.ref opa])), (oca, Sum.inl (cI, n, Sum.inl ocf)), (opa, Sum.inl (cI, opl, Sum.inl opf))] sz sl (fun (u : Nat × Nat × (Nat → Int32) × Int32 × (Nat → Int32)) => rOk (nI (eB (spN sh t lv 1 (Rg, L, ca, Pn, bs) C).1).length) u.2.1 ∧ gIs u.2.2.1 (eB (spN sh t lv 1 (Rg, L, ca, Pn, bs) C).1) ∧ tbI u.2.2.2.2 n (spN sh t lv 1 (Rg, L, ca, Pn, bs) C).2) (fun (u : Nat × Nat × (Nat → Int32) × Int32 × (Nat → Int32)) => [(co, Sum.inr (3, [Value.int (nI sh), Value.long xkeptCode, Value.long xkeptRange, Value.int xkeptAsked, Value.int (caI (eC ((spN sh t lv 1 (Rg, L, ca, Pn, bs) C).1))), Value.int (nI (eP ((spN sh t lv 1 (Rg, L, ca, Pn, bs) C).1))), Value.long (lN (eL ((spN sh t lv 1 (Rg, L, ca, Pn, bs) C).1))), Value.long (lN (eR ((spN sh t lv 1 (Rg, L, ca, Pn, bs) C).1))), Value.long xcode, Value.long xreadLow, Value.long xreadRange, Value.ref ri, Value.ref ro, Value.ref rw, Value.int xasked])), (rw, Sum.inr (0, [Value.int (nI (eB (spN sh t lv 1 (Rg, L, ca, Pn, bs) C).1).length), Value.ref u.1])), (u.1, Sum.inl (cI, u.2.1, Sum.inl u.2.2.1)), (oo, Sum.inr (7, [Value.int (nI sg), Value.int u.2.2.2.1, Value.int ofc, Value.ref oca, Value.ref opa])), (oca, Sum.inl (cI, n, Sum.inl u.2.2.2.2)), (opa, Sum.inl (cI, opl, Sum.inl opf))]) (rPh rwk) (fun (u : Nat × Nat × (Nat → Int32) × Int32 × (Nat → Int32)) => rPh u.2.1) := by
  refine my_ofVg (cc := prog_2_method_5_code) (n := 6) (ret := none) (by decide) rfl (Nat.le_of_ble_eq_true rfl) ?_
  intro p e s m args below meth c R Q A ls H locs hx hb hr hts hown hlocks hml hnm hR hQ hA hl hP hK hN hD hS
  have hg : ∀ w ∈ gw, w.before args s = true := fun w h => hts w (List.mem_cons_of_mem _ h)
  have hown : s.vm.findClass "RangeCoders$Bits" = some m.cls := hown
  have hl : lv_has ls 6 [(0, Value.ref co), (1, Value.ref oo), (2, Value.int (nI t))] := hl
  have hltw := rOk_lt hrw
  have hl6 : lev sg ≤ 6 := lev_6 sg
  refine lv_iconst (v := 1) hx hb d_Bits_writeSign_0 (by decide) ?_
  refine lv_istore_n (lv' := [(3, Value.int 1), (0, Value.ref co), (1, Value.ref oo), (2, Value.int (nI t))]) hx hb d_Bits_writeSign_1 rfl hl (by decide) rfl (fun ls hl => ?_)
  refine lv_aload_n hx hb d_Bits_writeSign_2 rfl (lv_at hl 2 rfl) ?_
  refine va_get (D := (dC, dI)) (ci := 7) (v := .int (nI sg)) (C := "RangeCoders$Odds") (T := T_Odds) (N := 5) hx hb hg in_Odds hown hK hP 3 rfl rfl 0 (by decide) (hg _ k304) (fun _ h9 => h9) rfl d_Bits_writeSign_3 ?_
  refine my_ci (wr := [(co, Sum.inr (3, [Value.int (nI sh), Value.long xkeptCode, Value.long xkeptRange, Value.int xkeptAsked, Value.int (caI ca), Value.int (nI Pn), Value.long (lN L), Value.long (lN Rg), Value.long xcode, Value.long xreadLow, Value.long xreadRange, Value.ref ri, Value.ref ro, Value.ref rw, Value.int xasked])), (rw, Sum.inr (0, [Value.int (nI bs.length), Value.ref rwa])), (rwa, Sum.inl (cI, rwk, Sum.inl rwf)), (oo, Sum.inr (7, [Value.int (nI sg), Value.int osm, Value.int ofc, Value.ref oca, Value.ref opa])), (oca, Sum.inl (cI, n, Sum.inl ocf)), (opa, Sum.inl (cI, opl, Sum.inl opf))]) (va_runS (As := [Value.int (nI sg)]) (rest := []) ⟨hx, hb, hml, hown, hts⟩ (f_Bits_levelsOf l dC dI cI cM cO H.size sg (by first | assumption | omega) (by first | assumption | omega)) (cwS 1 hts (my_gS k296 k297 k8 k298) rfl rfl rfl (by decide +kernel) ⟨by rw [hR]; exact Nat.le_of_ble_eq_true rfl, by rw [hR]; exact Nat.le_of_ble_eq_true rfl⟩) (my_pre hK hN (hP.sub [] rfl) (hD.sub [] (by decide +kernel) rfl)) rfl rfl hl.1 rfl (lv_room (Nat.le_of_ble_eq_true rfl)) d_Bits_writeSign_6 ⟨by rw [hR]; exact (show 0 + 0 ≤ (rPh rwk) by omega), by rw [hR]; exact (show 0 + 0 ≤ (rPh rwk) by omega)⟩) hP hD hS hA [] [0, 1, 2, 3, 4, 5] rfl rfl (by decide +kernel) (by decide +kernel) (fun r_6 u9 H locs hw_6 hP hD hS => ?_)
  have hr_6 : r_6 = nI (lev sg) := hw_6
  have hPD : my_PD (dC, dI) vwCl A [(co, Sum.inr (3, [Value.int (nI sh), Value.long xkeptCode, Value.long xkeptRange, Value.int xkeptAsked, Value.int (caI ca), Value.int (nI Pn), Value.long (lN L), Value.long (lN Rg), Value.long xcode, Value.long xreadLow, Value.long xreadRange, Value.ref ri, Value.ref ro, Value.ref rw, Value.int xasked])), (rw, Sum.inr (0, [Value.int (nI bs.length), Value.ref rwa])), (rwa, Sum.inl (cI, rwk, Sum.inl rwf)), (oo, Sum.inr (7, [Value.int (nI sg), Value.int osm, Value.int ofc, Value.ref oca, Value.ref opa])), (oca, Sum.inl (cI, n, Sum.inl ocf)), (opa, Sum.inl (cI, opl, Sum.inl opf))] H := ⟨hP, hD⟩
  have hP := hPD.1
  have hD := hPD.2
  refine lv_iconst (v := 1) hx hb d_Bits_writeSign_9 (by decide) ?_
  refine lv_isub hx hb d_Bits_writeSign_10 ?_
  refine lv_topi (fun v_1 ev_1 => ?_)
  refine lv_istore (lv' := [(4, Value.int v_1), (3, Value.int 1), (0, Value.ref co), (1, Value.ref oo), (2, Value.int (nI t))]) hx hb d_Bits_writeSign_11 hl (by decide) rfl (fun ls hl => ?_)
  have J_13 : ∀ (n9_13 : Nat) (i9 : Int32) (j : Nat) (nd : Nat) (e9 : ES) (D : Nat → Nat) (fK : Nat → Int32) (sm9 : Int32) (rwa9 : Nat) (rwk9 : Nat) (rwf9 : Nat → Int32) (d9 : Nat) (hn9_13 : j = n9_13) (hi : i9 + 1 = nI j) (hj : j ≤ lv) (hE9 : spN sh t lv 1 (Rg, L, ca, Pn, bs) C = spN sh t j nd e9 D) (hI9 : eInv e9) (hM9 : eN e9 + 2 * j ≤ 7881 + 2 * lv) (hnd : 0 < nd ∧ nd < 2 ^ (lv - j + 1)) (hfK : tbI fK n D) (hD9 : ∀ k, k < 64 → 1 ≤ D k ∧ D k ≤ 2047) (hr9 : rOk (nI (eB e9).length) rwk9) (hg9 : gIs rwf9 (eB e9)) (hd9 : d9 + rPh rwk9 ≤ rPh rwk) (H : Heap) (locs : List Loc) (ls : Array Slot), va_P (dC, dI) vwCl [(co, Sum.inr (3, [Value.int (nI sh), Value.long xkeptCode, Value.long xkeptRange, Value.int xkeptAsked, Value.int (caI (eC e9)), Value.int (nI (eP e9)), Value.long (lN (eL e9)), Value.long (lN (eR e9)), Value.long xcode, Value.long xreadLow, Value.long xreadRange, Value.ref ri, Value.ref ro, Value.ref rw, Value.int xasked])), (rw, Sum.inr (0, [Value.int (nI (eB e9).length), Value.ref rwa9])), (rwa9, Sum.inl (cI, rwk9, Sum.inl rwf9)), (oo, Sum.inr (7, [Value.int (nI sg), Value.int sm9, Value.int ofc, Value.ref oca, Value.ref opa])), (oca, Sum.inl (cI, n, Sum.inl fK)), (opa, Sum.inl (cI, opl, Sum.inl opf))] H → va_D A [(co, Sum.inr (3, [Value.int (nI sh), Value.long xkeptCode, Value.long xkeptRange, Value.int xkeptAsked, Value.int (caI (eC e9)), Value.int (nI (eP e9)), Value.long (lN (eL e9)), Value.long (lN (eR e9)), Value.long xcode, Value.long xreadLow, Value.long xreadRange, Value.ref ri, Value.ref ro, Value.ref rw, Value.int xasked])), (rw, Sum.inr (0, [Value.int (nI (eB e9).length), Value.ref rwa9])), (rwa9, Sum.inl (cI, rwk9, Sum.inl rwf9)), (oo, Sum.inr (7, [Value.int (nI sg), Value.int sm9, Value.int ofc, Value.ref oca, Value.ref opa])), (oca, Sum.inl (cI, n, Sum.inl fK)), (opa, Sum.inl (cI, opl, Sum.inl opf))] → va_S A s.heap H locs → lv_has ls 6 [(4, Value.int i9), (3, Value.int (nI nd)), (0, Value.ref co), (1, Value.ref oo), (2, Value.int (nI t))] → W p l e R s m args below meth c H locs d9 d9 Q (F0 m 13 ls []) := by
    intro n9_13
    induction n9_13 using Nat.strongRecOn with
    | ind n9_13 ih9_13 =>
      intro i9 j nd e9 D fK sm9 rwa9 rwk9 rwf9 d9 hn9_13 hi hj hE9 hI9 hM9 hnd hfK hD9 hr9 hg9 hd9 H locs ls hP hD hS hl
      refine lv_iload hx hb d_Bits_writeSign_13 (lv_at hl 0 rfl) ?_
      refine lv_if_lt (tgt := 47) hx hb d_Bits_writeSign_15 (by decide) (fun c_2 => ?_) (fun c_2 => ?_)
      · have hj0 : j = 0 := by
          rcases Nat.eq_zero_or_pos j with z | z
          · exact z
          · exact absurd (show i9 < 0 from c_2) (by rw [show i9 = nI (j - 1) from by rw [← Int32.add_sub_cancel (a := i9) (b := 1), hi]; exact pk_sub (b := 1) z]; exact nI_pos (by omega))
        have hx9 : spN sh t lv 1 (Rg, L, ca, Pn, bs) C = (e9, D) := by rw [hE9, hj0]; rfl
        have z9 : e9 = (spN sh t lv 1 (Rg, L, ca, Pn, bs) C).1 := by rw [hx9]
        subst z9
        exact my_vretg hx hb hr hlocks hQ hK hS (rwa9, rwk9, rwf9, sm9, fK) (show d9 + (rPh rwk9) ≤ (rPh rwk) by omega) (show d9 + (rPh rwk9) ≤ (rPh rwk) by omega) (⟨hr9, hg9, by rw [hx9]; exact hfK⟩) (hP.sub [0, 1, 2, 3, 4, 5] rfl) (hD.sub [0, 1, 2, 3, 4, 5] (by decide +kernel) rfl) d_Bits_writeSign_47
      · have hj0 : 1 ≤ j := by
          rcases Nat.eq_zero_or_pos j with z | z
          · subst z; exact absurd (show i9 < 0 by rw [show i9 = -1 from by rw [← Int32.add_sub_cancel (a := i9) (b := 1), hi]; rfl]; decide) c_2
          · exact z
        have hi9 : i9 = nI (j - 1) := by rw [← Int32.add_sub_cancel (a := i9) (b := 1), hi]; exact pk_sub (b := 1) hj0
        have hvl : t / 2 ^ (j - 1) ≤ t := Nat.div_le_self _ _
        have hndn : nd < n := by rw [hnl]; exact Nat.lt_of_lt_of_le hnd.2 (Nat.pow_le_pow_right (by decide) (by omega))
        have hnd64 : nd < 64 := by omega
        have hb2 := Nat.mod_lt (t / 2 ^ (j - 1)) (show 0 < 2 by decide)
        subst hi9
        refine lv_iload_n hx hb d_Bits_writeSign_18 rfl (lv_at hl 4 rfl) ?_
        refine lv_iload hx hb d_Bits_writeSign_19 (lv_at hl 0 rfl) ?_
        refine lv_iushr hx hb d_Bits_writeSign_21 rfl ?_
        refine lv_topi (fun v_3 ev_3 => ?_)
        refine lv_iconst (v := 1) hx hb d_Bits_writeSign_22 (by decide) ?_
        refine lv_iand hx hb d_Bits_writeSign_23 ?_
        refine lv_topi (fun v_4 ev_4 => ?_)
        have z9 : v_4 = nI (t / 2 ^ (j - 1) % 2) := by subst_vars; rw [I_ushr (by omega) (by omega)]; exact I_and1 (by omega)
        subst z9
        refine lv_istore (lv' := [(5, Value.int (nI (t / 2 ^ (j - 1) % 2))), (4, Value.int (nI (j - 1))), (3, Value.int (nI nd)), (0, Value.ref co), (1, Value.ref oo), (2, Value.int (nI t))]) hx hb d_Bits_writeSign_24 hl (by decide) rfl (fun ls hl => ?_)
        refine lv_aload_n hx hb d_Bits_writeSign_26 rfl (lv_at hl 3 rfl) ?_
        refine lv_aload_n hx hb d_Bits_writeSign_27 rfl (lv_at hl 4 rfl) ?_
        refine lv_iload_n hx hb d_Bits_writeSign_28 rfl (lv_at hl 2 rfl) ?_
        refine lv_iload hx hb d_Bits_writeSign_29 (lv_at hl 0 rfl) ?_
        refine my_cvg (wr := []) (va_runV (As := [Value.ref oo, Value.int (nI nd), Value.int (nI (t / 2 ^ (j - 1) % 2))]) (rest := []) ⟨hx, hb, hml, hown, hts⟩ (f_Bits_writeBit l dC dI cI cM cO H.size (hSl H) co xkeptCode xkeptRange xkeptAsked xcode xreadLow xreadRange ri ro rw xasked (eR e9) (eL e9) (eC e9) (eP e9) rwa9 rwk9 rwf9 (eB e9) oo (nI sg) ofc oca opa n fK opl opf sm9 nd (D nd) (t / 2 ^ (j - 1) % 2) sh (by first | assumption | omega) (by first | assumption | omega) (hnd.1) (hndn) (by first | assumption | omega) (hfK nd hndn) ((hD9 nd hnd64).1) ((hD9 nd hnd64).2) (hs2) (hb2) (hI9) (hr9) (hg9) (by have z : eN e9 = (eB e9).length + eP e9 + 1 := rfl; omega)) (cwV 3 hts (my_gV k445 k447 ks4 k8 k448) rfl rfl rfl cu_Bits_writeBit_3 ⟨by rw [hR]; exact Nat.le_of_ble_eq_true rfl, by rw [hR]; exact Nat.le_of_ble_eq_true rfl⟩) (my_preVg hK hN (hP.sub [0, 1, 2, 3, 4, 5] rfl) (hD.sub [0, 1, 2, 3, 4, 5] (by decide +kernel) rfl) 0 rfl rfl) rfl rfl hl.1 rfl (lv_room (Nat.le_of_ble_eq_true rfl)) d_Bits_writeSign_31 ⟨by rw [hR]; exact (show d9 + (rPh rwk9) ≤ (rPh rwk) by omega), by rw [hR]; exact (show d9 + (rPh rwk9) ≤ (rPh rwk) by omega)⟩) hP hD hS hA [0, 1, 2, 3, 4, 5] [] rfl rfl (by decide +kernel) (by decide +kernel) (fun u9 d_31 H locs hd_31 hw_31 hP hD hS => ?_)
        obtain ⟨rwaq_31, rwkq_31, rwfq_31, osmq_31, ocfq_31⟩ := u9
        obtain ⟨hrw_31, hGrw_31, hc_31⟩ : rOk (nI (eB (wdS (btS (D nd) (t / 2 ^ (j - 1) % 2) (eR e9) (eL e9) (eC e9) (eP e9) (eB e9)))).length) rwkq_31 ∧ gIs rwfq_31 (eB (wdS (btS (D nd) (t / 2 ^ (j - 1) % 2) (eR e9) (eL e9) (eC e9) (eP e9) (eB e9)))) ∧ ocfq_31 = upd fK nd (nI (mvC sh (t / 2 ^ (j - 1) % 2) (D nd))) := hw_31
        have hd_31 : d_31 + (rPh rwkq_31) ≤ (rPh rwk9) := hd_31
        have hPD : my_PD (dC, dI) vwCl A [(co, Sum.inr (3, [Value.int (nI sh), Value.long xkeptCode, Value.long xkeptRange, Value.int xkeptAsked, Value.int (caI (eC (wdS (btS (D nd) (t / 2 ^ (j - 1) % 2) (eR e9) (eL e9) (eC e9) (eP e9) (eB e9))))), Value.int (nI (eP (wdS (btS (D nd) (t / 2 ^ (j - 1) % 2) (eR e9) (eL e9) (eC e9) (eP e9) (eB e9))))), Value.long (lN (eL (wdS (btS (D nd) (t / 2 ^ (j - 1) % 2) (eR e9) (eL e9) (eC e9) (eP e9) (eB e9))))), Value.long (lN (eR (wdS (btS (D nd) (t / 2 ^ (j - 1) % 2) (eR e9) (eL e9) (eC e9) (eP e9) (eB e9))))), Value.long xcode, Value.long xreadLow, Value.long xreadRange, Value.ref ri, Value.ref ro, Value.ref rw, Value.int xasked])), (rw, Sum.inr (0, [Value.int (nI (eB (wdS (btS (D nd) (t / 2 ^ (j - 1) % 2) (eR e9) (eL e9) (eC e9) (eP e9) (eB e9)))).length), Value.ref rwaq_31])), (rwaq_31, Sum.inl (cI, rwkq_31, Sum.inl rwfq_31)), (oo, Sum.inr (7, [Value.int (nI sg), Value.int osmq_31, Value.int ofc, Value.ref oca, Value.ref opa])), (oca, Sum.inl (cI, n, Sum.inl ocfq_31)), (opa, Sum.inl (cI, opl, Sum.inl opf))] H := ⟨hP, hD⟩
        have hP := hPD.1
        have hD := hPD.2
        refine lv_iconst (v := 2) hx hb d_Bits_writeSign_34 (by decide) ?_
        refine lv_iload_n hx hb d_Bits_writeSign_35 rfl (lv_at hl 2 rfl) ?_
        refine lv_imul hx hb d_Bits_writeSign_36 ?_
        refine lv_topi (fun v_5 ev_5 => ?_)
        refine lv_iload hx hb d_Bits_writeSign_37 (lv_at hl 0 rfl) ?_
        refine lv_iadd hx hb d_Bits_writeSign_39 ?_
        refine lv_topi (fun v_6 ev_6 => ?_)
        have z9 : v_6 = nI (2 * nd + t / 2 ^ (j - 1) % 2) := by subst_vars; rw [show (2 : Int32) * nI nd = nI (2 * nd) from pk_mul 2 nd]; exact nI_add _ _
        subst z9
        refine lv_istore_n (lv' := [(3, Value.int (nI (2 * nd + t / 2 ^ (j - 1) % 2))), (5, Value.int (nI (t / 2 ^ (j - 1) % 2))), (4, Value.int (nI (j - 1))), (0, Value.ref co), (1, Value.ref oo), (2, Value.int (nI t))]) hx hb d_Bits_writeSign_40 rfl hl (by decide) rfl (fun ls hl => ?_)
        obtain ⟨v_7, ev_7⟩ : ∃ y : Int32, y = (nI (j - 1)) + (-1) := ⟨_, rfl⟩
        refine lv_iinc (v := v_7) (lv' := [(4, Value.int v_7), (3, Value.int (nI (2 * nd + t / 2 ^ (j - 1) % 2))), (5, Value.int (nI (t / 2 ^ (j - 1) % 2))), (0, Value.ref co), (1, Value.ref oo), (2, Value.int (nI t))]) hx hb d_Bits_writeSign_41 hl (k := 2) rfl (by rw [ev_7]; rfl) (by decide) rfl (fun ls hl => ?_)
        refine lv_goto (tgt := 13) hx hb d_Bits_writeSign_44 (by decide) ?_
        exact ih9_13 _ (by first | omega | (omega)) v_7 (j - 1) (2 * nd + t / 2 ^ (j - 1) % 2) (wdS (btS (D nd) (t / 2 ^ (j - 1) % 2) (eR e9) (eL e9) (eC e9) (eP e9) (eB e9))) (upN D nd (mvC sh (t / 2 ^ (j - 1) % 2) (D nd))) ocfq_31 osmq_31 rwaq_31 rwkq_31 rwfq_31 (d9 + d_31) rfl (by rw [ev_7, show nI (j - 1) + (-1) + 1 = nI (j - 1) from by rw [Int32.add_assoc, show (-1 : Int32) + 1 = 0 from by decide, Int32.add_zero]]) (by omega) (by rw [hE9, show spN sh t j nd e9 D = spN sh t (j - 1 + 1) nd e9 D by rw [Nat.sub_add_cancel hj0]]; rfl) ((bt_inv hI9 (hD9 nd hnd64).1 (hD9 nd hnd64).2).1) (by have z := (bt_inv (bt := t / 2 ^ (j - 1) % 2) hI9 (hD9 nd hnd64).1 (hD9 nd hnd64).2).2; omega) (nd_st hj0 hj hnd hb2) (by rw [hc_31]; exact tb_up hfK rfl rfl) (ch_up hs1 hD9) (hrw_31) (hGrw_31) (by omega) H locs ls (hP.sub [0, 1, 2, 3, 4, 5] rfl) (hD.sub [0, 1, 2, 3, 4, 5] (by decide +kernel) rfl) hS (lv_sub hl [0, 1, 3, 4, 5] rfl)
  exact J_13 _ v_1 lv (1 : Nat) (Rg, L, ca, Pn, bs) C ocf osm rwa rwk rwf (0 : Nat) rfl (by rw [ev_1, hr_6, Int32.sub_add_cancel, hlv]) (Nat.le_refl _) (rfl) (hE) (by show bs.length + Pn + 1 + 2 * lv ≤ _; omega) (⟨by decide, by rw [Nat.sub_self]; decide⟩) (hf) (hC) (hrw) (hGrw) (by omega) H locs ls (hP.sub [0, 1, 2, 3, 4, 5] rfl) (hD.sub [0, 1, 2, 3, 4, 5] (by decide +kernel) rfl) hS (lv_sub hl [0, 1, 2, 3, 4] rfl)
set_option maxHeartbeats 2000000 in
set_option maxRecDepth 100000 in
theorem f_Bits_writeValue (l : Launch) (dC : Nat → ClassId) (dI : Nat → Nat → Nat) (cI cM cO : ClassId) (sz : Nat) (sl : Nat) (co : Nat) (xshift : Int32) (xkeptCode : Int64) (xkeptRange : Int64) (xkeptAsked : Int32) (xcode : Int64) (xreadLow : Int64) (xreadRange : Int64) (ri : Nat) (ro : Nat) (rw : Nat) (xasked : Int32) (Rg : Nat) (L : Nat) (ca : Option Nat) (Pn : Nat) (rwa : Nat) (rwk : Nat) (rwf : Nat → Int32) (bs : List Nat) (v : Nat) (b : Nat) (hb1 : 1 ≤ b) (hb2 : b ≤ 12) (hv : v < 4096) (hE : eInv (Rg, L, ca, Pn, bs)) (hrw : rOk (nI bs.length) rwk) (hGrw : gIs rwf bs) (hN9 : bs.length + Pn + 20 ≤ 7900) : MetVg l y_Bits_writeValue (Cond.code y_Bits_writeValue prog_2_method_6_code 4 none :: gw) ({ frames := 6, cells := rPh rwk, slots := rPh rwk, locals := 146 } : Room) (dC, dI) vwCl (kT cI cM cO) [Value.ref co, Value.int (nI v), Value.int (nI b)] [(co, Sum.inr (3, [Value.int xshift, Value.long xkeptCode, Value.long xkeptRange, Value.int xkeptAsked, Value.int (caI ca), Value.int (nI Pn), Value.long (lN L), Value.long (lN Rg), Value.long xcode, Value.long xreadLow, Value.long xreadRange, Value.ref ri, Value.ref ro, Value.ref rw, Value.int xasked])), (rw, Sum.inr (0, [Value.int (nI bs.length), Value.ref rwa])), (rwa, Sum.inl (cI, rwk, Sum.inl rwf))] sz sl (fun (u : Nat × Nat × (Nat → Int32)) => rOk (nI (eB (vbN v b (Rg, L, ca, Pn, bs))).length) u.2.1 ∧ gIs u.2.2 (eB (vbN v b (Rg, L, ca, Pn, bs)))) (fun (u : Nat × Nat × (Nat → Int32)) => [(co, Sum.inr (3, [Value.int xshift, Value.long xkeptCode, Value.long xkeptRange, Value.int xkeptAsked, Value.int (caI (eC (vbN v b (Rg, L, ca, Pn, bs)))), Value.int (nI (eP (vbN v b (Rg, L, ca, Pn, bs)))), Value.long (lN (eL (vbN v b (Rg, L, ca, Pn, bs)))), Value.long (lN (eR (vbN v b (Rg, L, ca, Pn, bs)))), Value.long xcode, Value.long xreadLow, Value.long xreadRange, Value.ref ri, Value.ref ro, Value.ref rw, Value.int xasked])), (rw, Sum.inr (0, [Value.int (nI (eB (vbN v b (Rg, L, ca, Pn, bs))).length), Value.ref u.1])), (u.1, Sum.inl (cI, u.2.1, Sum.inl u.2.2))]) (rPh rwk) (fun (u : Nat × Nat × (Nat → Int32)) => rPh u.2.1) := by
  refine my_ofVg (cc := prog_2_method_6_code) (n := 4) (ret := none) (by decide) rfl (Nat.le_of_ble_eq_true rfl) ?_
  intro p e s m args below meth c R Q A ls H locs hx hb hr hts hown hlocks hml hnm hR hQ hA hl hP hK hN hD hS
  have hg : ∀ w ∈ gw, w.before args s = true := fun w h => hts w (List.mem_cons_of_mem _ h)
  have hown : s.vm.findClass "RangeCoders$Bits" = some m.cls := hown
  have hl : lv_has ls 4 [(0, Value.ref co), (1, Value.int (nI v)), (2, Value.int (nI b))] := hl
  have hltw := rOk_lt hrw
  refine lv_iload_n hx hb d_Bits_writeValue_0 rfl (lv_at hl 2 rfl) ?_
  refine lv_iconst (v := 1) hx hb d_Bits_writeValue_1 (by decide) ?_
  refine lv_isub hx hb d_Bits_writeValue_2 ?_
  refine lv_topi (fun v_1 ev_1 => ?_)
  refine lv_istore_n (lv' := [(3, Value.int v_1), (0, Value.ref co), (1, Value.int (nI v)), (2, Value.int (nI b))]) hx hb d_Bits_writeValue_3 rfl hl (by decide) rfl (fun ls hl => ?_)
  have J_4 : ∀ (n9_4 : Nat) (i9 : Int32) (j : Nat) (e9 : ES) (rwa9 : Nat) (rwk9 : Nat) (rwf9 : Nat → Int32) (d9 : Nat) (hn9_4 : j = n9_4) (hi : i9 + 1 = nI j) (hj : j ≤ b) (hE9 : vbN v b (Rg, L, ca, Pn, bs) = vbN v j e9) (hI9 : eInv e9) (hM9 : eN e9 + j ≤ 7900 - 19 + b) (hr9 : rOk (nI (eB e9).length) rwk9) (hg9 : gIs rwf9 (eB e9)) (hd9 : d9 + rPh rwk9 ≤ rPh rwk) (H : Heap) (locs : List Loc) (ls : Array Slot), va_P (dC, dI) vwCl [(co, Sum.inr (3, [Value.int xshift, Value.long xkeptCode, Value.long xkeptRange, Value.int xkeptAsked, Value.int (caI (eC e9)), Value.int (nI (eP e9)), Value.long (lN (eL e9)), Value.long (lN (eR e9)), Value.long xcode, Value.long xreadLow, Value.long xreadRange, Value.ref ri, Value.ref ro, Value.ref rw, Value.int xasked])), (rw, Sum.inr (0, [Value.int (nI (eB e9).length), Value.ref rwa9])), (rwa9, Sum.inl (cI, rwk9, Sum.inl rwf9))] H → va_D A [(co, Sum.inr (3, [Value.int xshift, Value.long xkeptCode, Value.long xkeptRange, Value.int xkeptAsked, Value.int (caI (eC e9)), Value.int (nI (eP e9)), Value.long (lN (eL e9)), Value.long (lN (eR e9)), Value.long xcode, Value.long xreadLow, Value.long xreadRange, Value.ref ri, Value.ref ro, Value.ref rw, Value.int xasked])), (rw, Sum.inr (0, [Value.int (nI (eB e9).length), Value.ref rwa9])), (rwa9, Sum.inl (cI, rwk9, Sum.inl rwf9))] → va_S A s.heap H locs → lv_has ls 4 [(3, Value.int i9), (0, Value.ref co), (1, Value.int (nI v)), (2, Value.int (nI b))] → W p l e R s m args below meth c H locs d9 d9 Q (F0 m 4 ls []) := by
    intro n9_4
    induction n9_4 using Nat.strongRecOn with
    | ind n9_4 ih9_4 =>
      intro i9 j e9 rwa9 rwk9 rwf9 d9 hn9_4 hi hj hE9 hI9 hM9 hr9 hg9 hd9 H locs ls hP hD hS hl
      refine lv_iload_n hx hb d_Bits_writeValue_4 rfl (lv_at hl 0 rfl) ?_
      refine lv_if_lt (tgt := 50) hx hb d_Bits_writeValue_5 (by decide) (fun c_2 => ?_) (fun c_2 => ?_)
      · have hj0 : j = 0 := by
          rcases Nat.eq_zero_or_pos j with z | z
          · exact z
          · exact absurd (show i9 < 0 from c_2) (by rw [show i9 = nI (j - 1) from by rw [← Int32.add_sub_cancel (a := i9) (b := 1), hi]; exact pk_sub (b := 1) z]; exact nI_pos (by omega))
        have z9 : e9 = vbN v b (Rg, L, ca, Pn, bs) := by rw [hE9, hj0]; rfl
        subst z9
        exact my_vretg hx hb hr hlocks hQ hK hS (rwa9, rwk9, rwf9) (show d9 + (rPh rwk9) ≤ (rPh rwk) by omega) (show d9 + (rPh rwk9) ≤ (rPh rwk) by omega) (⟨hr9, hg9⟩) (hP.sub [0, 1, 2] rfl) (hD.sub [0, 1, 2] (by decide +kernel) rfl) d_Bits_writeValue_50
      · have hj0 : 1 ≤ j := by
          rcases Nat.eq_zero_or_pos j with z | z
          · subst z; exact absurd (show i9 < 0 by rw [show i9 = -1 from by rw [← Int32.add_sub_cancel (a := i9) (b := 1), hi]; rfl]; decide) c_2
          · exact z
        have hi9 : i9 = nI (j - 1) := by rw [← Int32.add_sub_cancel (a := i9) (b := 1), hi]; exact pk_sub (b := 1) hj0
        obtain ⟨hI1, hI2, hI3, hI4⟩ := id hI9
        have hvl : v / 2 ^ (j - 1) ≤ v := Nat.div_le_self _ _
        subst hi9
        refine lv_aload_n hx hb d_Bits_writeValue_8 rfl (lv_at hl 1 rfl) ?_
        refine lv_dup hx hb d_Bits_writeValue_9 rfl ?_
        refine va_get (D := (dC, dI)) (ci := 3) (v := .long (lN (eR e9))) (C := "RangeCoders$Bits") (T := T_Bits) (N := 15) hx hb hg in_Bits hown hK hP 0 rfl rfl 7 (by decide) (hg _ k82) (fun x9 h9 => u_same (hg _ k83) x9 h9) rfl d_Bits_writeValue_10 ?_
        refine lv_iconst (v := 1) hx hb d_Bits_writeValue_13 (by decide) ?_
        refine lv_lushr hx hb d_Bits_writeValue_14 rfl ?_
        refine lv_topl (fun v_3 ev_3 => ?_)
        have z9 : v_3 = lN (eR e9 / 2) := by rw [ev_3]; exact U_shr1 (by omega)
        subst z9
        refine va_put (D := (dC, dI)) (ci := 3) (v := .long (lN (eR e9 / 2))) (ty := .long) (C := "RangeCoders$Bits") (T := T_Bits) (N := 15) hx hb hg in_Bits t_Bits o_Bits n_Bits hown hK hP hD hS 0 rfl rfl 7 (by decide) (hg _ k82) (fun x9 h9 => u_same (hg _ k83) x9 h9) rfl (o_Bits 7 (by decide)) rfl rfl (Nat.le_of_ble_eq_true rfl) d_Bits_writeValue_15 (fun H locs hP hD hS => ?_)
        have hPD : my_PD (dC, dI) vwCl A [(co, Sum.inr (3, [Value.int xshift, Value.long xkeptCode, Value.long xkeptRange, Value.int xkeptAsked, Value.int (caI (eC e9)), Value.int (nI (eP e9)), Value.long (lN (eL e9)), Value.long (lN (eR e9 / 2)), Value.long xcode, Value.long xreadLow, Value.long xreadRange, Value.ref ri, Value.ref ro, Value.ref rw, Value.int xasked])), (rw, Sum.inr (0, [Value.int (nI (eB e9).length), Value.ref rwa9])), (rwa9, Sum.inl (cI, rwk9, Sum.inl rwf9))] H := ⟨hP, hD⟩
        have hP := hPD.1
        have hD := hPD.2
        refine lv_iload_n hx hb d_Bits_writeValue_18 rfl (lv_at hl 2 rfl) ?_
        refine lv_iload_n hx hb d_Bits_writeValue_19 rfl (lv_at hl 0 rfl) ?_
        refine lv_iushr hx hb d_Bits_writeValue_20 rfl ?_
        refine lv_topi (fun v_4 ev_4 => ?_)
        refine lv_iconst (v := 1) hx hb d_Bits_writeValue_21 (by decide) ?_
        refine lv_iand hx hb d_Bits_writeValue_22 ?_
        refine lv_topi (fun v_5 ev_5 => ?_)
        have z9 : v_5 = nI (v / 2 ^ (j - 1) % 2) := by subst_vars; rw [I_ushr (by omega) (by omega)]; exact I_and1 (by omega)
        subst z9
        refine lv_iconst (v := 1) hx hb d_Bits_writeValue_23 (by decide) ?_
        refine lv_icmp_ne (tgt := 40) hx hb d_Bits_writeValue_24 (by decide) (fun c_6 => ?_) (fun c_6 => ?_)
        · have hsu : (lN (eL e9) : Int64) = lN (if v / 2 ^ (j - 1) % 2 = 1 then eL e9 + eR e9 / 2 else eL e9) := by rw [if_neg (fun z => c_6 (by rw [z]; rfl))]
          rw [hsu] at hP hD
          have hPD : my_PD (dC, dI) vwCl A [(co, Sum.inr (3, [Value.int xshift, Value.long xkeptCode, Value.long xkeptRange, Value.int xkeptAsked, Value.int (caI (eC e9)), Value.int (nI (eP e9)), Value.long (lN (if v / 2 ^ (j - 1) % 2 = 1 then eL e9 + eR e9 / 2 else eL e9)), Value.long (lN (eR e9 / 2)), Value.long xcode, Value.long xreadLow, Value.long xreadRange, Value.ref ri, Value.ref ro, Value.ref rw, Value.int xasked])), (rw, Sum.inr (0, [Value.int (nI (eB e9).length), Value.ref rwa9])), (rwa9, Sum.inl (cI, rwk9, Sum.inl rwf9))] H := ⟨hP, hD⟩
          have hP := hPD.1
          have hD := hPD.2
          have hLL : (if v / 2 ^ (j - 1) % 2 = 1 then eL e9 + eR e9 / 2 else eL e9) < 8589934592 := by split <;> omega
          refine lv_aload_n hx hb d_Bits_writeValue_40 rfl (lv_at hl 1 rfl) ?_
          refine my_cvg (wr := []) (va_runU (As := []) (rest := []) ⟨hx, hb, hml, hown, hts⟩ (f_Bits_widen l dC dI cI cM cO H.size (hSl H) co xshift xkeptCode xkeptRange xkeptAsked xcode xreadLow xreadRange ri ro rw xasked (eR e9 / 2) (if v / 2 ^ (j - 1) % 2 = 1 then eL e9 + eR e9 / 2 else eL e9) (eC e9) (eP e9) rwa9 rwk9 rwf9 (eB e9) (by omega) (by omega) (hLL) (hI4) (hr9) (hg9) (by have z : eN e9 = (eB e9).length + eP e9 + 1 := rfl; omega)) (va_cwU 0 hts (my_gU k455 k456 k458 k459 k5 k460) rfl rfl rfl rfl (by decide +kernel) ⟨by rw [hR]; exact Nat.le_of_ble_eq_true rfl, by rw [hR]; exact Nat.le_of_ble_eq_true rfl⟩) (my_preVg hK hN (hP.sub [0, 1, 2] rfl) (hD.sub [0, 1, 2] (by decide +kernel) rfl) 0 rfl rfl) rfl rfl hl.1 rfl (lv_room (Nat.le_of_ble_eq_true rfl)) d_Bits_writeValue_41 ⟨by rw [hR]; exact (show d9 + (rPh rwk9) ≤ (rPh rwk) by omega), by rw [hR]; exact (show d9 + (rPh rwk9) ≤ (rPh rwk) by omega)⟩) hP hD hS hA [0, 1, 2] [] rfl rfl (by decide +kernel) (by decide +kernel) (fun u9 d_41 H locs hd_41 hw_41 hP hD hS => ?_)
          obtain ⟨rwaq_41, rwkq_41, rwfq_41⟩ := u9
          obtain ⟨hrw_41, hGrw_41⟩ : rOk (nI (eB (wdS ((eR e9 / 2), (if v / 2 ^ (j - 1) % 2 = 1 then eL e9 + eR e9 / 2 else eL e9), (eC e9), (eP e9), (eB e9)))).length) rwkq_41 ∧ gIs rwfq_41 (eB (wdS ((eR e9 / 2), (if v / 2 ^ (j - 1) % 2 = 1 then eL e9 + eR e9 / 2 else eL e9), (eC e9), (eP e9), (eB e9)))) := hw_41
          have hd_41 : d_41 + (rPh rwkq_41) ≤ (rPh rwk9) := hd_41
          have hPD : my_PD (dC, dI) vwCl A [(co, Sum.inr (3, [Value.int xshift, Value.long xkeptCode, Value.long xkeptRange, Value.int xkeptAsked, Value.int (caI (eC (wdS ((eR e9 / 2), (if v / 2 ^ (j - 1) % 2 = 1 then eL e9 + eR e9 / 2 else eL e9), (eC e9), (eP e9), (eB e9))))), Value.int (nI (eP (wdS ((eR e9 / 2), (if v / 2 ^ (j - 1) % 2 = 1 then eL e9 + eR e9 / 2 else eL e9), (eC e9), (eP e9), (eB e9))))), Value.long (lN (eL (wdS ((eR e9 / 2), (if v / 2 ^ (j - 1) % 2 = 1 then eL e9 + eR e9 / 2 else eL e9), (eC e9), (eP e9), (eB e9))))), Value.long (lN (eR (wdS ((eR e9 / 2), (if v / 2 ^ (j - 1) % 2 = 1 then eL e9 + eR e9 / 2 else eL e9), (eC e9), (eP e9), (eB e9))))), Value.long xcode, Value.long xreadLow, Value.long xreadRange, Value.ref ri, Value.ref ro, Value.ref rw, Value.int xasked])), (rw, Sum.inr (0, [Value.int (nI (eB (wdS ((eR e9 / 2), (if v / 2 ^ (j - 1) % 2 = 1 then eL e9 + eR e9 / 2 else eL e9), (eC e9), (eP e9), (eB e9)))).length), Value.ref rwaq_41])), (rwaq_41, Sum.inl (cI, rwkq_41, Sum.inl rwfq_41))] H := ⟨hP, hD⟩
          have hP := hPD.1
          have hD := hPD.2
          obtain ⟨v_7, ev_7⟩ : ∃ y : Int32, y = (nI (j - 1)) + (-1) := ⟨_, rfl⟩
          refine lv_iinc (v := v_7) (lv' := [(3, Value.int v_7), (0, Value.ref co), (1, Value.int (nI v)), (2, Value.int (nI b))]) hx hb d_Bits_writeValue_44 hl (k := 0) rfl (by rw [ev_7]; rfl) (by decide) rfl (fun ls hl => ?_)
          refine lv_goto (tgt := 4) hx hb d_Bits_writeValue_47 (by decide) ?_
          exact ih9_4 _ (by first | omega | (omega)) v_7 (j - 1) (wdS (eR e9 / 2, (if v / 2 ^ (j - 1) % 2 = 1 then eL e9 + eR e9 / 2 else eL e9), e9.2.2)) rwaq_41 rwkq_41 rwfq_41 (d9 + d_41) rfl (by rw [ev_7, show nI (j - 1) + (-1) + 1 = nI (j - 1) from by rw [Int32.add_assoc, show (-1 : Int32) + 1 = 0 from by decide, Int32.add_zero]]) (by omega) (by rw [hE9, show vbN v j e9 = vbN v (j - 1 + 1) e9 by rw [Nat.sub_add_cancel hj0]]; rfl) ((vb_inv hI9 _).1) (by have z := (vb_inv hI9 (v / 2 ^ (j - 1) % 2 = 1)).2; omega) (hrw_41) (hGrw_41) (by omega) H locs ls (hP.sub [0, 1, 2] rfl) (hD.sub [0, 1, 2] (by decide +kernel) rfl) hS (lv_sub hl [0, 1, 2, 3] rfl)
        · refine lv_aload_n hx hb d_Bits_writeValue_27 rfl (lv_at hl 1 rfl) ?_
          refine lv_dup hx hb d_Bits_writeValue_28 rfl ?_
          refine va_get (D := (dC, dI)) (ci := 3) (v := .long (lN (eL e9))) (C := "RangeCoders$Bits") (T := T_Bits) (N := 15) hx hb hg in_Bits hown hK hP 0 rfl rfl 6 (by decide) (hg _ k75) (fun x9 h9 => u_same (hg _ k76) x9 h9) rfl d_Bits_writeValue_29 ?_
          refine lv_aload_n hx hb d_Bits_writeValue_32 rfl (lv_at hl 1 rfl) ?_
          refine va_get (D := (dC, dI)) (ci := 3) (v := .long (lN (eR e9 / 2))) (C := "RangeCoders$Bits") (T := T_Bits) (N := 15) hx hb hg in_Bits hown hK hP 0 rfl rfl 7 (by decide) (hg _ k82) (fun x9 h9 => u_same (hg _ k83) x9 h9) rfl d_Bits_writeValue_33 ?_
          refine lv_ladd hx hb d_Bits_writeValue_36 ?_
          refine lv_topl (fun v_8 ev_8 => ?_)
          have z9 : v_8 = lN (if v / 2 ^ (j - 1) % 2 = 1 then eL e9 + eR e9 / 2 else eL e9) := by rw [ev_8, if_pos ((nI_eq (b := 1) (by omega) (by decide)).mp c_6)]; exact lN_add _ _
          subst z9
          refine va_put (D := (dC, dI)) (ci := 3) (v := .long (lN (if v / 2 ^ (j - 1) % 2 = 1 then eL e9 + eR e9 / 2 else eL e9))) (ty := .long) (C := "RangeCoders$Bits") (T := T_Bits) (N := 15) hx hb hg in_Bits t_Bits o_Bits n_Bits hown hK hP hD hS 0 rfl rfl 6 (by decide) (hg _ k75) (fun x9 h9 => u_same (hg _ k76) x9 h9) rfl (o_Bits 6 (by decide)) rfl rfl (Nat.le_of_ble_eq_true rfl) d_Bits_writeValue_37 (fun H locs hP hD hS => ?_)
          have hPD : my_PD (dC, dI) vwCl A [(co, Sum.inr (3, [Value.int xshift, Value.long xkeptCode, Value.long xkeptRange, Value.int xkeptAsked, Value.int (caI (eC e9)), Value.int (nI (eP e9)), Value.long (lN (if v / 2 ^ (j - 1) % 2 = 1 then eL e9 + eR e9 / 2 else eL e9)), Value.long (lN (eR e9 / 2)), Value.long xcode, Value.long xreadLow, Value.long xreadRange, Value.ref ri, Value.ref ro, Value.ref rw, Value.int xasked])), (rw, Sum.inr (0, [Value.int (nI (eB e9).length), Value.ref rwa9])), (rwa9, Sum.inl (cI, rwk9, Sum.inl rwf9))] H := ⟨hP, hD⟩
          have hP := hPD.1
          have hD := hPD.2
          have hLL : (if v / 2 ^ (j - 1) % 2 = 1 then eL e9 + eR e9 / 2 else eL e9) < 8589934592 := by split <;> omega
          refine lv_aload_n hx hb d_Bits_writeValue_40 rfl (lv_at hl 1 rfl) ?_
          refine my_cvg (wr := []) (va_runU (As := []) (rest := []) ⟨hx, hb, hml, hown, hts⟩ (f_Bits_widen l dC dI cI cM cO H.size (hSl H) co xshift xkeptCode xkeptRange xkeptAsked xcode xreadLow xreadRange ri ro rw xasked (eR e9 / 2) (if v / 2 ^ (j - 1) % 2 = 1 then eL e9 + eR e9 / 2 else eL e9) (eC e9) (eP e9) rwa9 rwk9 rwf9 (eB e9) (by omega) (by omega) (hLL) (hI4) (hr9) (hg9) (by have z : eN e9 = (eB e9).length + eP e9 + 1 := rfl; omega)) (va_cwU 0 hts (my_gU k455 k456 k458 k459 k5 k460) rfl rfl rfl rfl (by decide +kernel) ⟨by rw [hR]; exact Nat.le_of_ble_eq_true rfl, by rw [hR]; exact Nat.le_of_ble_eq_true rfl⟩) (my_preVg hK hN (hP.sub [0, 1, 2] rfl) (hD.sub [0, 1, 2] (by decide +kernel) rfl) 0 rfl rfl) rfl rfl hl.1 rfl (lv_room (Nat.le_of_ble_eq_true rfl)) d_Bits_writeValue_41 ⟨by rw [hR]; exact (show d9 + (rPh rwk9) ≤ (rPh rwk) by omega), by rw [hR]; exact (show d9 + (rPh rwk9) ≤ (rPh rwk) by omega)⟩) hP hD hS hA [0, 1, 2] [] rfl rfl (by decide +kernel) (by decide +kernel) (fun u9 d_41 H locs hd_41 hw_41 hP hD hS => ?_)
          obtain ⟨rwaq_41, rwkq_41, rwfq_41⟩ := u9
          obtain ⟨hrw_41, hGrw_41⟩ : rOk (nI (eB (wdS ((eR e9 / 2), (if v / 2 ^ (j - 1) % 2 = 1 then eL e9 + eR e9 / 2 else eL e9), (eC e9), (eP e9), (eB e9)))).length) rwkq_41 ∧ gIs rwfq_41 (eB (wdS ((eR e9 / 2), (if v / 2 ^ (j - 1) % 2 = 1 then eL e9 + eR e9 / 2 else eL e9), (eC e9), (eP e9), (eB e9)))) := hw_41
          have hd_41 : d_41 + (rPh rwkq_41) ≤ (rPh rwk9) := hd_41
          have hPD : my_PD (dC, dI) vwCl A [(co, Sum.inr (3, [Value.int xshift, Value.long xkeptCode, Value.long xkeptRange, Value.int xkeptAsked, Value.int (caI (eC (wdS ((eR e9 / 2), (if v / 2 ^ (j - 1) % 2 = 1 then eL e9 + eR e9 / 2 else eL e9), (eC e9), (eP e9), (eB e9))))), Value.int (nI (eP (wdS ((eR e9 / 2), (if v / 2 ^ (j - 1) % 2 = 1 then eL e9 + eR e9 / 2 else eL e9), (eC e9), (eP e9), (eB e9))))), Value.long (lN (eL (wdS ((eR e9 / 2), (if v / 2 ^ (j - 1) % 2 = 1 then eL e9 + eR e9 / 2 else eL e9), (eC e9), (eP e9), (eB e9))))), Value.long (lN (eR (wdS ((eR e9 / 2), (if v / 2 ^ (j - 1) % 2 = 1 then eL e9 + eR e9 / 2 else eL e9), (eC e9), (eP e9), (eB e9))))), Value.long xcode, Value.long xreadLow, Value.long xreadRange, Value.ref ri, Value.ref ro, Value.ref rw, Value.int xasked])), (rw, Sum.inr (0, [Value.int (nI (eB (wdS ((eR e9 / 2), (if v / 2 ^ (j - 1) % 2 = 1 then eL e9 + eR e9 / 2 else eL e9), (eC e9), (eP e9), (eB e9)))).length), Value.ref rwaq_41])), (rwaq_41, Sum.inl (cI, rwkq_41, Sum.inl rwfq_41))] H := ⟨hP, hD⟩
          have hP := hPD.1
          have hD := hPD.2
          obtain ⟨v_9, ev_9⟩ : ∃ y : Int32, y = (nI (j - 1)) + (-1) := ⟨_, rfl⟩
          refine lv_iinc (v := v_9) (lv' := [(3, Value.int v_9), (0, Value.ref co), (1, Value.int (nI v)), (2, Value.int (nI b))]) hx hb d_Bits_writeValue_44 hl (k := 0) rfl (by rw [ev_9]; rfl) (by decide) rfl (fun ls hl => ?_)
          refine lv_goto (tgt := 4) hx hb d_Bits_writeValue_47 (by decide) ?_
          exact ih9_4 _ (by first | omega | (omega)) v_9 (j - 1) (wdS (eR e9 / 2, (if v / 2 ^ (j - 1) % 2 = 1 then eL e9 + eR e9 / 2 else eL e9), e9.2.2)) rwaq_41 rwkq_41 rwfq_41 (d9 + d_41) rfl (by rw [ev_9, show nI (j - 1) + (-1) + 1 = nI (j - 1) from by rw [Int32.add_assoc, show (-1 : Int32) + 1 = 0 from by decide, Int32.add_zero]]) (by omega) (by rw [hE9, show vbN v j e9 = vbN v (j - 1 + 1) e9 by rw [Nat.sub_add_cancel hj0]]; rfl) ((vb_inv hI9 _).1) (by have z := (vb_inv hI9 (v / 2 ^ (j - 1) % 2 = 1)).2; omega) (hrw_41) (hGrw_41) (by omega) H locs ls (hP.sub [0, 1, 2] rfl) (hD.sub [0, 1, 2] (by decide +kernel) rfl) hS (lv_sub hl [0, 1, 2, 3] rfl)
  exact J_4 _ v_1 b (Rg, L, ca, Pn, bs) rwa rwk rwf (0 : Nat) rfl (by rw [ev_1, Int32.sub_add_cancel]) (Nat.le_refl _) (rfl) (hE) (by show bs.length + Pn + 1 + b ≤ _; omega) (hrw) (hGrw) (by omega) H locs ls (hP.sub [0, 1, 2] rfl) (hD.sub [0, 1, 2] (by decide +kernel) rfl) hS (lv_sub hl [0, 1, 2, 3] rfl)
end
section
set_option maxHeartbeats 2000000 in
set_option maxRecDepth 100000 in
theorem f_Stack_writeLowest (l : Launch) (dC : Nat → ClassId) (dI : Nat → Nat → Nat) (cI cM cO : ClassId) (sz : Nat) (sl : Nat) (co : Nat) (xreadX : Int64) (soa : Nat) (sna : Nat) (swa : Nat) (xkept : Int32) (ri : Nat) (ro : Nat) (rw : Nat) (xasked : Int32) (XX : Nat) (rwa : Nat) (rwk : Nat) (rwf : Nat → Int32) (bs : List Nat) (hX : XX < 2 ^ 62) (hrw : rOk (nI bs.length) rwk) (hGrw : gIs rwf bs) (hN9 : bs.length ≤ 8000) : MetVg l y_Stack_writeLowest (Cond.code y_Stack_writeLowest prog_10_method_11_code 1 none :: gw) ({ frames := 3, cells := rPh rwk, slots := rPh rwk, locals := 83 } : Room) (dC, dI) vwCl (kT cI cM cO) [Value.ref co] [(co, Sum.inr (4, [Value.long (lN XX), Value.long xreadX, Value.ref soa, Value.ref sna, Value.ref swa, Value.int xkept, Value.ref ri, Value.ref ro, Value.ref rw, Value.int xasked])), (rw, Sum.inr (0, [Value.int (nI bs.length), Value.ref rwa])), (rwa, Sum.inl (cI, rwk, Sum.inl rwf))] sz sl (fun (u : Nat × Nat × (Nat → Int32)) => rOk (nI (bs ++ [XX % 256]).length) u.2.1 ∧ gIs u.2.2 (bs ++ [XX % 256])) (fun (u : Nat × Nat × (Nat → Int32)) => [(co, Sum.inr (4, [Value.long (lN (XX / 256)), Value.long xreadX, Value.ref soa, Value.ref sna, Value.ref swa, Value.int xkept, Value.ref ri, Value.ref ro, Value.ref rw, Value.int xasked])), (rw, Sum.inr (0, [Value.int (nI (bs ++ [XX % 256]).length), Value.ref u.1])), (u.1, Sum.inl (cI, u.2.1, Sum.inl u.2.2))]) (rPh rwk) (fun (u : Nat × Nat × (Nat → Int32)) => rPh u.2.1) := by
  refine my_ofVg (cc := prog_10_method_11_code) (n := 1) (ret := none) (by decide) rfl (Nat.le_of_ble_eq_true rfl) ?_
  intro p e s m args below meth c R Q A ls H locs hx hb hr hts hown hlocks hml hnm hR hQ hA hl hP hK hN hD hS
  have hg : ∀ w ∈ gw, w.before args s = true := fun w h => hts w (List.mem_cons_of_mem _ h)
  have hown : s.vm.findClass "RangeCoders$Stack" = some m.cls := hown
  have hl : lv_has ls 1 [(0, Value.ref co)] := hl
  have hltw := rOk_lt hrw
  refine lv_aload_n hx hb d_Stack_writeLowest_0 rfl (lv_at hl 0 rfl) ?_
  refine va_get (D := (dC, dI)) (ci := 4) (v := .ref rw) (C := "RangeCoders$Stack") (T := T_Stack) (N := 10) hx hb hg in_Stack hown hK hP 0 rfl rfl 8 (by decide) (hg _ k118) (fun x9 h9 => u_same (hg _ k119) x9 h9) rfl d_Stack_writeLowest_1 ?_
  refine lv_aload_n hx hb d_Stack_writeLowest_4 rfl (lv_at hl 0 rfl) ?_
  refine va_get (D := (dC, dI)) (ci := 4) (v := .long (lN XX)) (C := "RangeCoders$Stack") (T := T_Stack) (N := 10) hx hb hg in_Stack hown hK hP 0 rfl rfl 0 (by decide) (hg _ k211) (fun x9 h9 => u_same (hg _ k212) x9 h9) rfl d_Stack_writeLowest_5 ?_
  refine lv_ldc2 (v := 255) hx hb hown (hg _ k623) d_Stack_writeLowest_8 ?_
  refine lv_land hx hb d_Stack_writeLowest_11 ?_
  refine lv_topl (fun v_1 ev_1 => ?_)
  refine lv_l2i hx hb d_Stack_writeLowest_12 rfl ?_
  refine lv_topi (fun v_2 ev_2 => ?_)
  have z9 : v_2 = nI (XX % 256) := by subst_vars; rw [L_and8 (by omega)]; exact lN_i _
  subst z9
  refine my_cvg (wr := [(co, Sum.inr (4, [Value.long (lN XX), Value.long xreadX, Value.ref soa, Value.ref sna, Value.ref swa, Value.int xkept, Value.ref ri, Value.ref ro, Value.ref rw, Value.int xasked]))]) (va_runV (As := [Value.int (nI (XX % 256))]) (rest := []) ⟨hx, hb, hml, hown, hts⟩ (f_Row_add l dC dI cI cM cO H.size (hSl H) rw rwa rwk rwf bs (XX % 256) (hrw) (hGrw) (by omega)) (cwV 1 hts (my_gV k624 k473 k474 k6 k475) rfl rfl rfl cu_Row_add_1 ⟨by rw [hR]; exact Nat.le_of_ble_eq_true rfl, by rw [hR]; exact Nat.le_of_ble_eq_true rfl⟩) (my_preVg hK hN (hP.sub [1, 2] rfl) (hD.sub [1, 2] (by decide +kernel) rfl) 0 rfl rfl) rfl rfl hl.1 rfl (lv_room (Nat.le_of_ble_eq_true rfl)) d_Stack_writeLowest_13 ⟨by rw [hR]; exact (show 0 + (rPh rwk) ≤ (rPh rwk) by omega), by rw [hR]; exact (show 0 + (rPh rwk) ≤ (rPh rwk) by omega)⟩) hP hD hS hA [1, 2] [0] rfl rfl (by decide +kernel) (by decide +kernel) (fun u9 d_13 H locs hd_13 hw_13 hP hD hS => ?_)
  obtain ⟨rraq_13, rrkq_13, rrfq_13⟩ := u9
  obtain ⟨hrr_13, hGrr_13⟩ : rOk (nI (bs ++ [(XX % 256)]).length) rrkq_13 ∧ gIs rrfq_13 (bs ++ [(XX % 256)]) := hw_13
  have hd_13 : d_13 + (rPh rrkq_13) ≤ (rPh rwk) := hd_13
  have hPD : my_PD (dC, dI) vwCl A [(co, Sum.inr (4, [Value.long (lN XX), Value.long xreadX, Value.ref soa, Value.ref sna, Value.ref swa, Value.int xkept, Value.ref ri, Value.ref ro, Value.ref rw, Value.int xasked])), (rw, Sum.inr (0, [Value.int (nI (bs ++ [(XX % 256)]).length), Value.ref rraq_13])), (rraq_13, Sum.inl (cI, rrkq_13, Sum.inl rrfq_13))] H := ⟨hP, hD⟩
  have hP := hPD.1
  have hD := hPD.2
  refine lv_aload_n hx hb d_Stack_writeLowest_16 rfl (lv_at hl 0 rfl) ?_
  refine lv_dup hx hb d_Stack_writeLowest_17 rfl ?_
  refine va_get (D := (dC, dI)) (ci := 4) (v := .long (lN XX)) (C := "RangeCoders$Stack") (T := T_Stack) (N := 10) hx hb hg in_Stack hown hK hP 0 rfl rfl 0 (by decide) (hg _ k211) (fun x9 h9 => u_same (hg _ k212) x9 h9) rfl d_Stack_writeLowest_18 ?_
  refine lv_bipush (v := 8) hx hb d_Stack_writeLowest_21 (by decide) ?_
  refine lv_lushr hx hb d_Stack_writeLowest_23 rfl ?_
  refine lv_topl (fun v_3 ev_3 => ?_)
  have z9 : v_3 = lN (XX / 256) := by rw [ev_3]; exact U_shr8 (by omega)
  subst z9
  refine va_put (D := (dC, dI)) (ci := 4) (v := .long (lN (XX / 256))) (ty := .long) (C := "RangeCoders$Stack") (T := T_Stack) (N := 10) hx hb hg in_Stack t_Stack o_Stack n_Stack hown hK hP hD hS 0 rfl rfl 0 (by decide) (hg _ k211) (fun x9 h9 => u_same (hg _ k212) x9 h9) rfl (o_Stack 0 (by decide)) rfl rfl (Nat.le_of_ble_eq_true rfl) d_Stack_writeLowest_24 (fun H locs hP hD hS => ?_)
  have hPD : my_PD (dC, dI) vwCl A [(co, Sum.inr (4, [Value.long (lN (XX / 256)), Value.long xreadX, Value.ref soa, Value.ref sna, Value.ref swa, Value.int xkept, Value.ref ri, Value.ref ro, Value.ref rw, Value.int xasked])), (rw, Sum.inr (0, [Value.int (nI (bs ++ [(XX % 256)]).length), Value.ref rraq_13])), (rraq_13, Sum.inl (cI, rrkq_13, Sum.inl rrfq_13))] H := ⟨hP, hD⟩
  have hP := hPD.1
  have hD := hPD.2
  exact my_vretg hx hb hr hlocks hQ hK hS (rraq_13, rrkq_13, rrfq_13) (show (0 + d_13) + (rPh rrkq_13) ≤ (rPh rwk) by omega) (show (0 + d_13) + (rPh rrkq_13) ≤ (rPh rwk) by omega) (⟨hrr_13, hGrr_13⟩) (hP.sub [0, 1, 2] rfl) (hD.sub [0, 1, 2] (by decide +kernel) rfl) d_Stack_writeLowest_27
set_option maxHeartbeats 2000000 in
set_option maxRecDepth 100000 in
theorem f_Stack_stackPart (l : Launch) (dC : Nat → ClassId) (dI : Nat → Nat → Nat) (cI cM cO : ClassId) (sz : Nat) (sl : Nat) (co : Nat) (xreadX : Int64) (soa : Nat) (sna : Nat) (swa : Nat) (xkept : Int32) (ri : Nat) (ro : Nat) (rw : Nat) (xasked : Int32) (XX : Nat) (ff : Nat) (cc : Nat) (rwa : Nat) (rwk : Nat) (rwf : Nat → Int32) (bs : List Nat) (hf0 : 0 < ff) (hf1 : ff ≤ 4096) (hcc : cc ≤ 4096) (hX : XX < 2147483648) (hrw : rOk (nI bs.length) rwk) (hGrw : gIs rwf bs) (hN9 : bs.length + 8 ≤ 7900) : MetVg l y_Stack_stackPart (Cond.code y_Stack_stackPart prog_10_method_10_code 4 none :: gw) ({ frames := 4, cells := rPh rwk, slots := rPh rwk, locals := 103 } : Room) (dC, dI) vwCl (kT cI cM cO) [Value.ref co, Value.int (nI ff), Value.int (nI cc)] [(co, Sum.inr (4, [Value.long (lN XX), Value.long xreadX, Value.ref soa, Value.ref sna, Value.ref swa, Value.int xkept, Value.ref ri, Value.ref ro, Value.ref rw, Value.int xasked])), (rw, Sum.inr (0, [Value.int (nI bs.length), Value.ref rwa])), (rwa, Sum.inl (cI, rwk, Sum.inl rwf))] sz sl (fun (u : Nat × Nat × (Nat → Int32)) => rOk (nI ((s3I ff cc (XX, bs)).2).length) u.2.1 ∧ gIs u.2.2 ((s3I ff cc (XX, bs)).2)) (fun (u : Nat × Nat × (Nat → Int32)) => [(co, Sum.inr (4, [Value.long (lN (s3I ff cc (XX, bs)).1), Value.long xreadX, Value.ref soa, Value.ref sna, Value.ref swa, Value.int xkept, Value.ref ri, Value.ref ro, Value.ref rw, Value.int xasked])), (rw, Sum.inr (0, [Value.int (nI (s3I ff cc (XX, bs)).2.length), Value.ref u.1])), (u.1, Sum.inl (cI, u.2.1, Sum.inl u.2.2))]) (rPh rwk) (fun (u : Nat × Nat × (Nat → Int32)) => rPh u.2.1) := by
  refine my_ofVg (cc := prog_10_method_10_code) (n := 4) (ret := none) (by decide) rfl (Nat.le_of_ble_eq_true rfl) ?_
  intro p e s m args below meth c R Q A ls H locs hx hb hr hts hown hlocks hml hnm hR hQ hA hl hP hK hN hD hS
  have hg : ∀ w ∈ gw, w.before args s = true := fun w h => hts w (List.mem_cons_of_mem _ h)
  have hown : s.vm.findClass "RangeCoders$Stack" = some m.cls := hown
  have hl : lv_has ls 4 [(0, Value.ref co), (1, Value.int (nI ff)), (2, Value.int (nI cc))] := hl
  have hltw := rOk_lt hrw
  refine lv_iload_n hx hb d_Stack_stackPart_0 rfl (lv_at hl 1 rfl) ?_
  refine lv_if_gt (tgt := 5) hx hb d_Stack_stackPart_1 (by decide) (fun c_1 => ?_) (fun c_1 => ?_)
  · refine lv_iconst (v := 0) hx hb d_Stack_stackPart_5 (by decide) ?_
    refine lv_istore_n (lv' := [(3, Value.int 0), (0, Value.ref co), (1, Value.int (nI ff)), (2, Value.int (nI cc))]) hx hb d_Stack_stackPart_6 rfl hl (by decide) rfl (fun ls hl => ?_)
    have J_7 : ∀ (n9_7 : Nat) (e9 : Nat × List Nat) (k9 : Nat) (rwa9 : Nat) (rwk9 : Nat) (rwf9 : Nat → Int32) (d9 : Nat) (hn9_7 : k9 = n9_7) (hE9 : s3N ff 8 (XX, bs) = s3N ff k9 e9) (hk6 : 6 ≤ k9) (hk8 : k9 ≤ 8) (hx9 : e9.1 < xb k9) (hM9 : e9.2.length + k9 ≤ 7900) (hr9 : rOk (nI e9.2.length) rwk9) (hg9 : gIs rwf9 e9.2) (hd9 : d9 + rPh rwk9 ≤ rPh rwk) (H : Heap) (locs : List Loc) (ls : Array Slot), va_P (dC, dI) vwCl [(co, Sum.inr (4, [Value.long (lN e9.1), Value.long xreadX, Value.ref soa, Value.ref sna, Value.ref swa, Value.int xkept, Value.ref ri, Value.ref ro, Value.ref rw, Value.int xasked])), (rw, Sum.inr (0, [Value.int (nI e9.2.length), Value.ref rwa9])), (rwa9, Sum.inl (cI, rwk9, Sum.inl rwf9))] H → va_D A [(co, Sum.inr (4, [Value.long (lN e9.1), Value.long xreadX, Value.ref soa, Value.ref sna, Value.ref swa, Value.int xkept, Value.ref ri, Value.ref ro, Value.ref rw, Value.int xasked])), (rw, Sum.inr (0, [Value.int (nI e9.2.length), Value.ref rwa9])), (rwa9, Sum.inl (cI, rwk9, Sum.inl rwf9))] → va_S A s.heap H locs → lv_has ls 4 [(3, Value.int (nI (8 - k9))), (0, Value.ref co), (1, Value.int (nI ff)), (2, Value.int (nI cc))] → W p l e R s m args below meth c H locs d9 d9 Q (F0 m 7 ls []) := by
      intro n9_7
      induction n9_7 using Nat.strongRecOn with
      | ind n9_7 ih9_7 =>
        intro e9 k9 rwa9 rwk9 rwf9 d9 hn9_7 hE9 hk6 hk8 hx9 hM9 hr9 hg9 hd9 H locs ls hP hD hS hl
        have hxb : xb k9 ≤ 2147483648 := xb_le
        refine lv_iload_n hx hb d_Stack_stackPart_7 rfl (lv_at hl 0 rfl) ?_
        refine lv_bipush (v := 8) hx hb d_Stack_stackPart_8 (by decide) ?_
        refine lv_icmp_ge (tgt := 36) hx hb d_Stack_stackPart_10 (by decide) (fun c_2 => ?_) (fun c_2 => ?_)
        · exact absurd (nI_ge' (n := 8) (by omega) (by decide) c_2) (by omega)
        · refine lv_aload_n hx hb d_Stack_stackPart_13 rfl (lv_at hl 1 rfl) ?_
          refine va_get (D := (dC, dI)) (ci := 4) (v := .long (lN e9.1)) (C := "RangeCoders$Stack") (T := T_Stack) (N := 10) hx hb hg in_Stack hown hK hP 0 rfl rfl 0 (by decide) (hg _ k211) (fun x9 h9 => u_same (hg _ k212) x9 h9) rfl d_Stack_stackPart_14 ?_
          refine lv_iload_n hx hb d_Stack_stackPart_17 rfl (lv_at hl 2 rfl) ?_
          refine lv_i2l hx hb d_Stack_stackPart_18 rfl ?_
          refine lv_topl (fun v_3 ev_3 => ?_)
          refine lv_bipush (v := 19) hx hb d_Stack_stackPart_19 (by decide) ?_
          refine lv_lshl hx hb d_Stack_stackPart_21 rfl ?_
          refine lv_topl (fun v_4 ev_4 => ?_)
          have z9 : v_4 = lN (ff * 524288) := by subst_vars; rw [nI_l (by omega)]; exact L_shl19 _
          subst z9
          refine W.lcmp hx hb d_Stack_stackPart_22 ?_
          refine lv_if_lt (tgt := 36) hx hb d_Stack_stackPart_23 (by decide) (fun c_5 => ?_) (fun c_5 => ?_)
          · rw [lg_cmp_lt] at c_5
            have hlt : ¬ ff * 524288 ≤ e9.1 := by have q := (L_lt (by omega) (by omega)).mp c_5; omega
            have hx8 : s3N ff 8 (XX, bs) = e9 := by rw [hE9, s3N_e hlt]
            refine lv_aload_n hx hb d_Stack_stackPart_36 rfl (lv_at hl 1 rfl) ?_
            refine lv_ldc2 (v := 4096) hx hb hown (hg _ k625) d_Stack_stackPart_37 ?_
            refine lv_aload_n hx hb d_Stack_stackPart_40 rfl (lv_at hl 1 rfl) ?_
            refine va_get (D := (dC, dI)) (ci := 4) (v := .long (lN e9.1)) (C := "RangeCoders$Stack") (T := T_Stack) (N := 10) hx hb hg in_Stack hown hK hP 0 rfl rfl 0 (by decide) (hg _ k211) (fun x9 h9 => u_same (hg _ k212) x9 h9) rfl d_Stack_stackPart_41 ?_
            refine lv_iload_n hx hb d_Stack_stackPart_44 rfl (lv_at hl 2 rfl) ?_
            refine lv_i2l hx hb d_Stack_stackPart_45 rfl ?_
            refine lv_topl (fun v_6 ev_6 => ?_)
            refine lv_ldiv hx hb d_Stack_stackPart_46 (by rw [ev_6]; rw [nI_l (by omega)]; intro z; have := (pk_lEQ (b := 0) (by omega) (by decide)).mp z; omega) ?_
            refine lv_topl (fun v_7 ev_7 => ?_)
            refine lv_lmul hx hb d_Stack_stackPart_47 ?_
            refine lv_topl (fun v_8 ev_8 => ?_)
            refine lv_aload_n hx hb d_Stack_stackPart_48 rfl (lv_at hl 1 rfl) ?_
            refine va_get (D := (dC, dI)) (ci := 4) (v := .long (lN e9.1)) (C := "RangeCoders$Stack") (T := T_Stack) (N := 10) hx hb hg in_Stack hown hK hP 0 rfl rfl 0 (by decide) (hg _ k211) (fun x9 h9 => u_same (hg _ k212) x9 h9) rfl d_Stack_stackPart_49 ?_
            refine lv_iload_n hx hb d_Stack_stackPart_52 rfl (lv_at hl 2 rfl) ?_
            refine lv_i2l hx hb d_Stack_stackPart_53 rfl ?_
            refine lv_topl (fun v_9 ev_9 => ?_)
            refine lv_lrem hx hb d_Stack_stackPart_54 (by rw [ev_9]; rw [nI_l (by omega)]; intro z; have := (pk_lEQ (b := 0) (by omega) (by decide)).mp z; omega) ?_
            refine lv_topl (fun v_10 ev_10 => ?_)
            refine lv_ladd hx hb d_Stack_stackPart_55 ?_
            refine lv_topl (fun v_11 ev_11 => ?_)
            refine lv_iload_n hx hb d_Stack_stackPart_56 rfl (lv_at hl 3 rfl) ?_
            refine lv_i2l hx hb d_Stack_stackPart_57 rfl ?_
            refine lv_topl (fun v_12 ev_12 => ?_)
            refine lv_ladd hx hb d_Stack_stackPart_58 ?_
            refine lv_topl (fun v_13 ev_13 => ?_)
            have z9 : v_13 = lN (s3I ff cc (XX, bs)).1 := by unfold s3I; rw [hx8]; subst_vars; rw [nI_l (by omega), nI_l (by omega), pk_lRem (by omega) hf0 (by omega), pk_lDiv (by omega) hf0 (by omega), show (4096 : Int64) = lN 4096 from rfl, lN_mul, lN_add, lN_add, Nat.mul_comm 4096]
            subst z9
            have hsu : (nI e9.2.length : Int32) = nI (s3I ff cc (XX, bs)).2.length := by unfold s3I; rw [hx8]
            rw [hsu] at hP hD
            have hPD : my_PD (dC, dI) vwCl A [(co, Sum.inr (4, [Value.long (lN e9.1), Value.long xreadX, Value.ref soa, Value.ref sna, Value.ref swa, Value.int xkept, Value.ref ri, Value.ref ro, Value.ref rw, Value.int xasked])), (rw, Sum.inr (0, [Value.int (nI (s3I ff cc (XX, bs)).2.length), Value.ref rwa9])), (rwa9, Sum.inl (cI, rwk9, Sum.inl rwf9))] H := ⟨hP, hD⟩
            have hP := hPD.1
            have hD := hPD.2
            refine va_put (D := (dC, dI)) (ci := 4) (v := .long (lN (s3I ff cc (XX, bs)).1)) (ty := .long) (C := "RangeCoders$Stack") (T := T_Stack) (N := 10) hx hb hg in_Stack t_Stack o_Stack n_Stack hown hK hP hD hS 0 rfl rfl 0 (by decide) (hg _ k211) (fun x9 h9 => u_same (hg _ k212) x9 h9) rfl (o_Stack 0 (by decide)) rfl rfl (Nat.le_of_ble_eq_true rfl) d_Stack_stackPart_59 (fun H locs hP hD hS => ?_)
            have hPD : my_PD (dC, dI) vwCl A [(co, Sum.inr (4, [Value.long (lN (s3I ff cc (XX, bs)).1), Value.long xreadX, Value.ref soa, Value.ref sna, Value.ref swa, Value.int xkept, Value.ref ri, Value.ref ro, Value.ref rw, Value.int xasked])), (rw, Sum.inr (0, [Value.int (nI (s3I ff cc (XX, bs)).2.length), Value.ref rwa9])), (rwa9, Sum.inl (cI, rwk9, Sum.inl rwf9))] H := ⟨hP, hD⟩
            have hP := hPD.1
            have hD := hPD.2
            exact my_vretg hx hb hr hlocks hQ hK hS (rwa9, rwk9, rwf9) (show d9 + (rPh rwk9) ≤ (rPh rwk) by omega) (show d9 + (rPh rwk9) ≤ (rPh rwk) by omega) (⟨by unfold s3I; rw [hx8]; exact hr9, by unfold s3I; rw [hx8]; exact hg9⟩) (hP.sub [0, 1, 2] rfl) (hD.sub [0, 1, 2] (by decide +kernel) rfl) d_Stack_stackPart_62
          · rw [lg_cmp_lt] at c_5
            have hge : ff * 524288 ≤ e9.1 := by
              rcases Nat.lt_or_ge e9.1 (ff * 524288) with q | q
              · exact absurd ((L_lt (by omega) (by omega)).mpr q) c_5
              · exact q
            have hk7 := xb_k hk6 hk8 hf0 hx9 hge
            refine lv_aload_n hx hb d_Stack_stackPart_26 rfl (lv_at hl 1 rfl) ?_
            refine my_cvg (wr := []) (va_runV (As := []) (rest := []) ⟨hx, hb, hml, hown, hts⟩ (f_Stack_writeLowest l dC dI cI cM cO H.size (hSl H) co xreadX soa sna swa xkept ri ro rw xasked e9.1 rwa9 rwk9 rwf9 e9.2 (by omega) (hr9) (hg9) (by omega)) (cwV 0 hts (my_gV k619 k621 ks10 k10 k622) rfl rfl rfl cu_Stack_writeLowest_0 ⟨by rw [hR]; exact Nat.le_of_ble_eq_true rfl, by rw [hR]; exact Nat.le_of_ble_eq_true rfl⟩) (my_preVg hK hN (hP.sub [0, 1, 2] rfl) (hD.sub [0, 1, 2] (by decide +kernel) rfl) 0 rfl rfl) rfl rfl hl.1 rfl (lv_room (Nat.le_of_ble_eq_true rfl)) d_Stack_stackPart_27 ⟨by rw [hR]; exact (show d9 + (rPh rwk9) ≤ (rPh rwk) by omega), by rw [hR]; exact (show d9 + (rPh rwk9) ≤ (rPh rwk) by omega)⟩) hP hD hS hA [0, 1, 2] [] rfl rfl (by decide +kernel) (by decide +kernel) (fun u9 d_27 H locs hd_27 hw_27 hP hD hS => ?_)
            obtain ⟨rwaq_27, rwkq_27, rwfq_27⟩ := u9
            obtain ⟨hrw_27, hGrw_27⟩ : rOk (nI (e9.2 ++ [e9.1 % 256]).length) rwkq_27 ∧ gIs rwfq_27 (e9.2 ++ [e9.1 % 256]) := hw_27
            have hd_27 : d_27 + (rPh rwkq_27) ≤ (rPh rwk9) := hd_27
            have hPD : my_PD (dC, dI) vwCl A [(co, Sum.inr (4, [Value.long (lN (e9.1 / 256)), Value.long xreadX, Value.ref soa, Value.ref sna, Value.ref swa, Value.int xkept, Value.ref ri, Value.ref ro, Value.ref rw, Value.int xasked])), (rw, Sum.inr (0, [Value.int (nI (e9.2 ++ [e9.1 % 256]).length), Value.ref rwaq_27])), (rwaq_27, Sum.inl (cI, rwkq_27, Sum.inl rwfq_27))] H := ⟨hP, hD⟩
            have hP := hPD.1
            have hD := hPD.2
            obtain ⟨v_14, ev_14⟩ : ∃ y : Int32, y = (nI (8 - k9)) + (1) := ⟨_, rfl⟩
            refine lv_iinc (v := v_14) (lv' := [(3, Value.int v_14), (0, Value.ref co), (1, Value.int (nI ff)), (2, Value.int (nI cc))]) hx hb d_Stack_stackPart_30 hl (k := 0) rfl (by rw [ev_14]; rfl) (by decide) rfl (fun ls hl => ?_)
            have z9 : v_14 = nI (8 - (k9 - 1)) := by rw [ev_14, show 8 - (k9 - 1) = 8 - k9 + 1 by omega]; exact nI_1 _
            subst z9
            refine lv_goto (tgt := 7) hx hb d_Stack_stackPart_33 (by decide) ?_
            exact ih9_7 _ (by first | omega | (omega)) (e9.1 / 256, e9.2 ++ [e9.1 % 256]) (k9 - 1) rwaq_27 rwkq_27 rwfq_27 (d9 + d_27) rfl (by rw [hE9, s3N_s (by omega) hge]) (by omega) (by omega) (xb_s hk7 hk8 hx9) (by show (e9.2 ++ [_]).length + (k9 - 1) ≤ _; rw [List.length_append, List.length_singleton]; omega) (hrw_27) (hGrw_27) (by omega) H locs ls (hP.sub [0, 1, 2] rfl) (hD.sub [0, 1, 2] (by decide +kernel) rfl) hS (lv_sub hl [0, 1, 2, 3] rfl)
    exact J_7 _ (XX, bs) (8 : Nat) rwa rwk rwf (0 : Nat) rfl (rfl) (by decide) (by decide) (hX) (by show bs.length + 8 ≤ _; omega) (hrw) (hGrw) (by omega) H locs ls (hP.sub [0, 1, 2] rfl) (hD.sub [0, 1, 2] (by decide +kernel) rfl) hS (lv_sub hl [0, 1, 2, 3] rfl)
  · exact absurd (nI_pos0 hf0 (by omega)) c_1
set_option maxHeartbeats 2000000 in
set_option maxRecDepth 100000 in
theorem f_Stack_stackSign (l : Launch) (dC : Nat → ClassId) (dI : Nat → Nat → Nat) (cI cM cO : ClassId) (sz : Nat) (sl : Nat) (co : Nat) (xreadX : Int64) (soa : Nat) (sna : Nat) (swa : Nat) (xkept : Int32) (ri : Nat) (ro : Nat) (rw : Nat) (xasked : Int32) (XX : Nat) (rwa : Nat) (rwk : Nat) (rwf : Nat → Int32) (bs : List Nat) (oo : Nat) (osg : Int32) (ofc : Int32) (oca : Nat) (opa : Nat) (n : Nat) (ocf : Nat → Int32) (opl : Nat) (opf : Nat → Int32) (F : Nat → Nat) (osm : Int32) (t : Nat) (hn : n ≤ 64) (hpl : opl ≤ 512) (hf : tbI ocf n F) (ht : t < n) (hfc : ofc ≤ nI t) (hFt : 0 < F t) (hsum : ns F n ≤ 4096) (hX : XX < 2147483648) (hrw : rOk (nI bs.length) rwk) (hGrw : gIs rwf bs) (hN9 : bs.length + 8 ≤ 7900) : MetVg l y_Stack_stackSign (Cond.code y_Stack_stackSign prog_10_method_4_code 3 none :: gw) ({ frames := 5, cells := rPh rwk, slots := rPh rwk, locals := 126 } : Room) (dC, dI) vwCl (kT cI cM cO) [Value.ref co, Value.ref oo, Value.int (nI t)] [(co, Sum.inr (4, [Value.long (lN XX), Value.long xreadX, Value.ref soa, Value.ref sna, Value.ref swa, Value.int xkept, Value.ref ri, Value.ref ro, Value.ref rw, Value.int xasked])), (rw, Sum.inr (0, [Value.int (nI bs.length), Value.ref rwa])), (rwa, Sum.inl (cI, rwk, Sum.inl rwf)), (oo, Sum.inr (7, [Value.int osg, Value.int osm, Value.int ofc, Value.ref oca, Value.ref opa])), (oca, Sum.inl (cI, n, Sum.inl ocf)), (opa, Sum.inl (cI, opl, Sum.inl opf))] sz sl (fun (u : Nat × Nat × (Nat → Int32)) => rOk (nI ((s3I (F t) (ns F t) (XX, bs)).2).length) u.2.1 ∧ gIs u.2.2 ((s3I (F t) (ns F t) (XX, bs)).2)) (fun (u : Nat × Nat × (Nat → Int32)) => [(co, Sum.inr (4, [Value.long (lN (s3I (F t) (ns F t) (XX, bs)).1), Value.long xreadX, Value.ref soa, Value.ref sna, Value.ref swa, Value.int xkept, Value.ref ri, Value.ref ro, Value.ref rw, Value.int xasked])), (rw, Sum.inr (0, [Value.int (nI (s3I (F t) (ns F t) (XX, bs)).2.length), Value.ref u.1])), (u.1, Sum.inl (cI, u.2.1, Sum.inl u.2.2)), (oo, Sum.inr (7, [Value.int osg, Value.int osm, Value.int ofc, Value.ref oca, Value.ref opa])), (oca, Sum.inl (cI, n, Sum.inl ocf)), (opa, Sum.inl (cI, opl, Sum.inl opf))]) (rPh rwk) (fun (u : Nat × Nat × (Nat → Int32)) => rPh u.2.1) := by
  refine my_ofVg (cc := prog_10_method_4_code) (n := 3) (ret := none) (by decide) rfl (Nat.le_of_ble_eq_true rfl) ?_
  intro p e s m args below meth c R Q A ls H locs hx hb hr hts hown hlocks hml hnm hR hQ hA hl hP hK hN hD hS
  have hg : ∀ w ∈ gw, w.before args s = true := fun w h => hts w (List.mem_cons_of_mem _ h)
  have hown : s.vm.findClass "RangeCoders$Stack" = some m.cls := hown
  have hl : lv_has ls 3 [(0, Value.ref co), (1, Value.ref oo), (2, Value.int (nI t))] := hl
  have hltw := rOk_lt hrw
  have hm1 := ns_m1 F ht
  refine lv_aload_n hx hb d_Stack_stackSign_0 rfl (lv_at hl 0 rfl) ?_
  refine lv_aload_n hx hb d_Stack_stackSign_1 rfl (lv_at hl 1 rfl) ?_
  refine lv_iload_n hx hb d_Stack_stackSign_2 rfl (lv_at hl 2 rfl) ?_
  refine my_ci (wr := [(co, Sum.inr (4, [Value.long (lN XX), Value.long xreadX, Value.ref soa, Value.ref sna, Value.ref swa, Value.int xkept, Value.ref ri, Value.ref ro, Value.ref rw, Value.int xasked])), (rw, Sum.inr (0, [Value.int (nI bs.length), Value.ref rwa])), (rwa, Sum.inl (cI, rwk, Sum.inl rwf))]) (va_runV (As := [Value.int (nI t)]) (rest := [Value.ref co]) ⟨hx, hb, hml, hown, hts⟩ (f_Odds_at l dC dI cI cM cO H.size oo osg ofc oca opa n ocf opl opf osm t (by first | assumption | omega) (by first | assumption | omega) (by first | assumption | omega) (by first | assumption | omega)) (cwV 1 hts (my_gV k636 k436 k437 k14 k438) rfl rfl rfl cu_Odds_at_1 ⟨by rw [hR]; exact Nat.le_of_ble_eq_true rfl, by rw [hR]; exact Nat.le_of_ble_eq_true rfl⟩) (my_preV hK hN (hP.sub [3, 4, 5] rfl) (hD.sub [3, 4, 5] (by decide +kernel) rfl) 0 rfl rfl) rfl rfl hl.1 rfl (lv_room (Nat.le_of_ble_eq_true rfl)) d_Stack_stackSign_3 ⟨by rw [hR]; exact (show 0 + 0 ≤ (rPh rwk) by omega), by rw [hR]; exact (show 0 + 0 ≤ (rPh rwk) by omega)⟩) hP hD hS hA [3, 4, 5] [0, 1, 2] rfl rfl (by decide +kernel) (by decide +kernel) (fun r_3 u9 H locs hw_3 hP hD hS => ?_)
  have hr_3 : r_3 = ocf t := hw_3
  have hPD : my_PD (dC, dI) vwCl A [(co, Sum.inr (4, [Value.long (lN XX), Value.long xreadX, Value.ref soa, Value.ref sna, Value.ref swa, Value.int xkept, Value.ref ri, Value.ref ro, Value.ref rw, Value.int xasked])), (rw, Sum.inr (0, [Value.int (nI bs.length), Value.ref rwa])), (rwa, Sum.inl (cI, rwk, Sum.inl rwf)), (oo, Sum.inr (7, [Value.int osg, Value.int osm, Value.int ofc, Value.ref oca, Value.ref opa])), (oca, Sum.inl (cI, n, Sum.inl ocf)), (opa, Sum.inl (cI, opl, Sum.inl opf))] H := ⟨hP, hD⟩
  have hP := hPD.1
  have hD := hPD.2
  rw [hf t ht] at hr_3
  have z9 : r_3 = nI (F t) := hr_3
  subst z9
  refine lv_aload_n hx hb d_Stack_stackSign_6 rfl (lv_at hl 1 rfl) ?_
  refine lv_iload_n hx hb d_Stack_stackSign_7 rfl (lv_at hl 2 rfl) ?_
  refine my_ci (wr := [(co, Sum.inr (4, [Value.long (lN XX), Value.long xreadX, Value.ref soa, Value.ref sna, Value.ref swa, Value.int xkept, Value.ref ri, Value.ref ro, Value.ref rw, Value.int xasked])), (rw, Sum.inr (0, [Value.int (nI bs.length), Value.ref rwa])), (rwa, Sum.inl (cI, rwk, Sum.inl rwf))]) (va_runV (As := [Value.int (nI t)]) (rest := [Value.int (nI (F t)), Value.ref co]) ⟨hx, hb, hml, hown, hts⟩ (f_Odds_below l dC dI cI cM cO H.size oo osg ofc oca opa n ocf opl opf F osm t (by first | assumption | omega) (by first | assumption | omega) (by first | assumption | omega) (by omega)) (cwV 1 hts (my_gV k637 k495 k496 k14 k497) rfl rfl rfl cu_Odds_below_1 ⟨by rw [hR]; exact Nat.le_of_ble_eq_true rfl, by rw [hR]; exact Nat.le_of_ble_eq_true rfl⟩) (my_preV hK hN (hP.sub [3, 4, 5] rfl) (hD.sub [3, 4, 5] (by decide +kernel) rfl) 0 rfl rfl) rfl rfl hl.1 rfl (lv_room (Nat.le_of_ble_eq_true rfl)) d_Stack_stackSign_8 ⟨by rw [hR]; exact (show 0 + 0 ≤ (rPh rwk) by omega), by rw [hR]; exact (show 0 + 0 ≤ (rPh rwk) by omega)⟩) hP hD hS hA [3, 4, 5] [0, 1, 2] rfl rfl (by decide +kernel) (by decide +kernel) (fun r_8 u9 H locs hw_8 hP hD hS => ?_)
  have hr_8 : r_8 = nI (ns F t) := hw_8
  have hPD : my_PD (dC, dI) vwCl A [(co, Sum.inr (4, [Value.long (lN XX), Value.long xreadX, Value.ref soa, Value.ref sna, Value.ref swa, Value.int xkept, Value.ref ri, Value.ref ro, Value.ref rw, Value.int xasked])), (rw, Sum.inr (0, [Value.int (nI bs.length), Value.ref rwa])), (rwa, Sum.inl (cI, rwk, Sum.inl rwf)), (oo, Sum.inr (7, [Value.int osg, Value.int osm, Value.int ofc, Value.ref oca, Value.ref opa])), (oca, Sum.inl (cI, n, Sum.inl ocf)), (opa, Sum.inl (cI, opl, Sum.inl opf))] H := ⟨hP, hD⟩
  have hP := hPD.1
  have hD := hPD.2
  have z9 : r_8 = nI (ns F t) := hr_8
  subst z9
  refine my_cvg (wr := [(oo, Sum.inr (7, [Value.int osg, Value.int osm, Value.int ofc, Value.ref oca, Value.ref opa])), (oca, Sum.inl (cI, n, Sum.inl ocf)), (opa, Sum.inl (cI, opl, Sum.inl opf))]) (va_runV (As := [Value.int (nI (F t)), Value.int (nI (ns F t))]) (rest := []) ⟨hx, hb, hml, hown, hts⟩ (f_Stack_stackPart l dC dI cI cM cO H.size (hSl H) co xreadX soa sna swa xkept ri ro rw xasked XX (F t) (ns F t) rwa rwk rwf bs (hFt) (by omega) (by omega) (by first | assumption | omega) (by first | assumption | omega) (by first | assumption | omega) (by first | assumption | omega)) (cwV 2 hts (my_gV k615 k617 ks9 k10 k618) rfl rfl rfl cu_Stack_stackPart_2 ⟨by rw [hR]; exact Nat.le_of_ble_eq_true rfl, by rw [hR]; exact Nat.le_of_ble_eq_true rfl⟩) (my_preVg hK hN (hP.sub [0, 1, 2] rfl) (hD.sub [0, 1, 2] (by decide +kernel) rfl) 0 rfl rfl) rfl rfl hl.1 rfl (lv_room (Nat.le_of_ble_eq_true rfl)) d_Stack_stackSign_11 ⟨by rw [hR]; exact (show 0 + (rPh rwk) ≤ (rPh rwk) by omega), by rw [hR]; exact (show 0 + (rPh rwk) ≤ (rPh rwk) by omega)⟩) hP hD hS hA [0, 1, 2] [3, 4, 5] rfl rfl (by decide +kernel) (by decide +kernel) (fun u9 d_11 H locs hd_11 hw_11 hP hD hS => ?_)
  obtain ⟨rwaq_11, rwkq_11, rwfq_11⟩ := u9
  obtain ⟨hrw_11, hGrw_11⟩ : rOk (nI ((s3I (F t) (ns F t) (XX, bs)).2).length) rwkq_11 ∧ gIs rwfq_11 ((s3I (F t) (ns F t) (XX, bs)).2) := hw_11
  have hd_11 : d_11 + (rPh rwkq_11) ≤ (rPh rwk) := hd_11
  have hPD : my_PD (dC, dI) vwCl A [(oo, Sum.inr (7, [Value.int osg, Value.int osm, Value.int ofc, Value.ref oca, Value.ref opa])), (oca, Sum.inl (cI, n, Sum.inl ocf)), (opa, Sum.inl (cI, opl, Sum.inl opf)), (co, Sum.inr (4, [Value.long (lN (s3I (F t) (ns F t) (XX, bs)).1), Value.long xreadX, Value.ref soa, Value.ref sna, Value.ref swa, Value.int xkept, Value.ref ri, Value.ref ro, Value.ref rw, Value.int xasked])), (rw, Sum.inr (0, [Value.int (nI (s3I (F t) (ns F t) (XX, bs)).2.length), Value.ref rwaq_11])), (rwaq_11, Sum.inl (cI, rwkq_11, Sum.inl rwfq_11))] H := ⟨hP, hD⟩
  have hP := hPD.1
  have hD := hPD.2
  exact my_vretg hx hb hr hlocks hQ hK hS (rwaq_11, rwkq_11, rwfq_11) (show (0 + d_11) + (rPh rwkq_11) ≤ (rPh rwk) by omega) (show (0 + d_11) + (rPh rwkq_11) ≤ (rPh rwk) by omega) (⟨hrw_11, hGrw_11⟩) (hP.sub [3, 4, 5, 0, 1, 2] rfl) (hD.sub [3, 4, 5, 0, 1, 2] (by decide +kernel) rfl) d_Stack_stackSign_14
set_option maxHeartbeats 2000000 in
set_option maxRecDepth 100000 in
theorem f_Stack_stackValue (l : Launch) (dC : Nat → ClassId) (dI : Nat → Nat → Nat) (cI cM cO : ClassId) (sz : Nat) (sl : Nat) (co : Nat) (xreadX : Int64) (soa : Nat) (sna : Nat) (swa : Nat) (xkept : Int32) (ri : Nat) (ro : Nat) (rw : Nat) (xasked : Int32) (XX : Nat) (rwa : Nat) (rwk : Nat) (rwf : Nat → Int32) (bs : List Nat) (v : Nat) (b : Nat) (hb1 : 1 ≤ b) (hb2 : b ≤ 12) (hv : v < 2 ^ b) (hX : XX < 2147483648) (hrw : rOk (nI bs.length) rwk) (hGrw : gIs rwf bs) (hN9 : bs.length + 8 ≤ 7900) : MetVg l y_Stack_stackValue (Cond.code y_Stack_stackValue prog_10_method_5_code 4 none :: gw) ({ frames := 5, cells := rPh rwk, slots := rPh rwk, locals := 126 } : Room) (dC, dI) vwCl (kT cI cM cO) [Value.ref co, Value.int (nI v), Value.int (nI b)] [(co, Sum.inr (4, [Value.long (lN XX), Value.long xreadX, Value.ref soa, Value.ref sna, Value.ref swa, Value.int xkept, Value.ref ri, Value.ref ro, Value.ref rw, Value.int xasked])), (rw, Sum.inr (0, [Value.int (nI bs.length), Value.ref rwa])), (rwa, Sum.inl (cI, rwk, Sum.inl rwf))] sz sl (fun (u : Nat × Nat × (Nat → Int32)) => rOk (nI ((s3I (4096 / 2 ^ b) (4096 / 2 ^ b * v) (XX, bs)).2).length) u.2.1 ∧ gIs u.2.2 ((s3I (4096 / 2 ^ b) (4096 / 2 ^ b * v) (XX, bs)).2)) (fun (u : Nat × Nat × (Nat → Int32)) => [(co, Sum.inr (4, [Value.long (lN (s3I (4096 / 2 ^ b) (4096 / 2 ^ b * v) (XX, bs)).1), Value.long xreadX, Value.ref soa, Value.ref sna, Value.ref swa, Value.int xkept, Value.ref ri, Value.ref ro, Value.ref rw, Value.int xasked])), (rw, Sum.inr (0, [Value.int (nI (s3I (4096 / 2 ^ b) (4096 / 2 ^ b * v) (XX, bs)).2.length), Value.ref u.1])), (u.1, Sum.inl (cI, u.2.1, Sum.inl u.2.2))]) (rPh rwk) (fun (u : Nat × Nat × (Nat → Int32)) => rPh u.2.1) := by
  refine my_ofVg (cc := prog_10_method_5_code) (n := 4) (ret := none) (by decide) rfl (Nat.le_of_ble_eq_true rfl) ?_
  intro p e s m args below meth c R Q A ls H locs hx hb hr hts hown hlocks hml hnm hR hQ hA hl hP hK hN hD hS
  have hg : ∀ w ∈ gw, w.before args s = true := fun w h => hts w (List.mem_cons_of_mem _ h)
  have hown : s.vm.findClass "RangeCoders$Stack" = some m.cls := hown
  have hl : lv_has ls 4 [(0, Value.ref co), (1, Value.int (nI v)), (2, Value.int (nI b))] := hl
  have hltw := rOk_lt hrw
  have hpw : 2 ^ b ≤ 2 ^ 12 := Nat.pow_le_pow_right (by decide) hb2
  have hpw0 : 0 < 2 ^ b := Nat.pow_pos (by decide)
  have hq0 : 0 < 4096 / 2 ^ b := Nat.div_pos hpw hpw0
  have hq1 : 4096 / 2 ^ b ≤ 4096 := Nat.div_le_self _ _
  have hq2 : 4096 / 2 ^ b * v ≤ 4096 / 2 ^ b * 2 ^ b := Nat.mul_le_mul_left _ (by omega)
  have hq3 := Nat.div_mul_le_self 4096 (2 ^ b)
  refine lv_sipush (v := 4096) hx hb d_Stack_stackValue_0 (by decide) ?_
  refine lv_iload_n hx hb d_Stack_stackValue_3 rfl (lv_at hl 2 rfl) ?_
  refine lv_ishr hx hb d_Stack_stackValue_4 ?_
  refine lv_topi (fun v_1 ev_1 => ?_)
  have z9 : v_1 = nI (4096 / 2 ^ b) := by rw [ev_1]; exact I_shr (n := 4096) (by decide) (by omega)
  subst z9
  refine lv_istore_n (lv' := [(3, Value.int (nI (4096 / 2 ^ b))), (0, Value.ref co), (1, Value.int (nI v)), (2, Value.int (nI b))]) hx hb d_Stack_stackValue_5 rfl hl (by decide) rfl (fun ls hl => ?_)
  refine lv_aload_n hx hb d_Stack_stackValue_6 rfl (lv_at hl 1 rfl) ?_
  refine lv_iload_n hx hb d_Stack_stackValue_7 rfl (lv_at hl 0 rfl) ?_
  refine lv_iload_n hx hb d_Stack_stackValue_8 rfl (lv_at hl 0 rfl) ?_
  refine lv_iload_n hx hb d_Stack_stackValue_9 rfl (lv_at hl 2 rfl) ?_
  refine lv_imul hx hb d_Stack_stackValue_10 ?_
  refine lv_topi (fun v_2 ev_2 => ?_)
  have z9 : v_2 = nI (4096 / 2 ^ b * v) := by rw [ev_2]; exact pk_mul _ _
  subst z9
  refine my_cvg (wr := []) (va_runV (As := [Value.int (nI (4096 / 2 ^ b)), Value.int (nI (4096 / 2 ^ b * v))]) (rest := []) ⟨hx, hb, hml, hown, hts⟩ (f_Stack_stackPart l dC dI cI cM cO H.size (hSl H) co xreadX soa sna swa xkept ri ro rw xasked XX (4096 / 2 ^ b) (4096 / 2 ^ b * v) rwa rwk rwf bs (hq0) (hq1) (by omega) (by first | assumption | omega) (by first | assumption | omega) (by first | assumption | omega) (by first | assumption | omega)) (cwV 2 hts (my_gV k615 k617 ks9 k10 k618) rfl rfl rfl cu_Stack_stackPart_2 ⟨by rw [hR]; exact Nat.le_of_ble_eq_true rfl, by rw [hR]; exact Nat.le_of_ble_eq_true rfl⟩) (my_preVg hK hN (hP.sub [0, 1, 2] rfl) (hD.sub [0, 1, 2] (by decide +kernel) rfl) 0 rfl rfl) rfl rfl hl.1 rfl (lv_room (Nat.le_of_ble_eq_true rfl)) d_Stack_stackValue_11 ⟨by rw [hR]; exact (show 0 + (rPh rwk) ≤ (rPh rwk) by omega), by rw [hR]; exact (show 0 + (rPh rwk) ≤ (rPh rwk) by omega)⟩) hP hD hS hA [0, 1, 2] [] rfl rfl (by decide +kernel) (by decide +kernel) (fun u9 d_11 H locs hd_11 hw_11 hP hD hS => ?_)
  obtain ⟨rwaq_11, rwkq_11, rwfq_11⟩ := u9
  obtain ⟨hrw_11, hGrw_11⟩ : rOk (nI ((s3I (4096 / 2 ^ b) (4096 / 2 ^ b * v) (XX, bs)).2).length) rwkq_11 ∧ gIs rwfq_11 ((s3I (4096 / 2 ^ b) (4096 / 2 ^ b * v) (XX, bs)).2) := hw_11
  have hd_11 : d_11 + (rPh rwkq_11) ≤ (rPh rwk) := hd_11
  have hPD : my_PD (dC, dI) vwCl A [(co, Sum.inr (4, [Value.long (lN (s3I (4096 / 2 ^ b) (4096 / 2 ^ b * v) (XX, bs)).1), Value.long xreadX, Value.ref soa, Value.ref sna, Value.ref swa, Value.int xkept, Value.ref ri, Value.ref ro, Value.ref rw, Value.int xasked])), (rw, Sum.inr (0, [Value.int (nI (s3I (4096 / 2 ^ b) (4096 / 2 ^ b * v) (XX, bs)).2.length), Value.ref rwaq_11])), (rwaq_11, Sum.inl (cI, rwkq_11, Sum.inl rwfq_11))] H := ⟨hP, hD⟩
  have hP := hPD.1
  have hD := hPD.2
  exact my_vretg hx hb hr hlocks hQ hK hS (rwaq_11, rwkq_11, rwfq_11) (show (0 + d_11) + (rPh rwkq_11) ≤ (rPh rwk) by omega) (show (0 + d_11) + (rPh rwkq_11) ≤ (rPh rwk) by omega) (⟨hrw_11, hGrw_11⟩) (hP.sub [0, 1, 2] rfl) (hD.sub [0, 1, 2] (by decide +kernel) rfl) d_Stack_stackValue_14
end
section
set_option maxHeartbeats 2000000 in
set_option maxRecDepth 100000 in
theorem f_Carries_prepare (l : Launch) (dC : Nat → ClassId) (dI : Nat → Nat → Nat) (cI cM cO : ClassId) (sz : Nat) (co : Nat) (xcache : Int32) (xpending : Int32) (xlow : Int64) (xrange : Int64) (xcode : Int64) (xreadLow : Int64) (xreadRange : Int64) (ri : Nat) (ro : Nat) (rw : Nat) (xasked : Int32) (oo : Nat) (osg : Int32) (ofc : Int32) (oca : Nat) (opa : Nat) (n : Nat) (ocf : Nat → Int32) (opl : Nat) (opf : Nat → Int32) (osm : Int32) (ka : Nat) (kf : Nat → Int32) (C : Nat → Nat) (hn : n ≤ 64) (hpl : opl ≤ 512) (hk : tbI kf n C) (hB : bd C n 4095) : MetV l y_Ranged_prepare (Cond.code y_Ranged_prepare prog_8_method_5_code 3 none :: gw) ({ frames := 2, cells := 0, slots := 0, locals := 44 } : Room) (dC, dI) vwCl (kT cI cM cO) [Value.ref co, Value.ref oo, Value.ref ka] [(co, Sum.inr (1, [Value.int xcache, Value.int xpending, Value.long xlow, Value.long xrange, Value.long xcode, Value.long xreadLow, Value.long xreadRange, Value.ref ri, Value.ref ro, Value.ref rw, Value.int xasked])), (oo, Sum.inr (7, [Value.int osg, Value.int osm, Value.int ofc, Value.ref oca, Value.ref opa])), (oca, Sum.inl (cI, n, Sum.inl ocf)), (opa, Sum.inl (cI, opl, Sum.inl opf)), (ka, Sum.inl (cI, n, Sum.inl kf))] sz (fun (u : (Nat → Int32)) => tbI u n (les n C)) (fun (u : (Nat → Int32)) => [(co, Sum.inr (1, [Value.int xcache, Value.int xpending, Value.long xlow, Value.long xrange, Value.long xcode, Value.long xreadLow, Value.long xreadRange, Value.ref ri, Value.ref ro, Value.ref rw, Value.int xasked])), (oo, Sum.inr (7, [Value.int osg, Value.int (nI (ns (les n C) n)), Value.int ofc, Value.ref oca, Value.ref opa])), (oca, Sum.inl (cI, n, Sum.inl u)), (opa, Sum.inl (cI, opl, Sum.inl opf)), (ka, Sum.inl (cI, n, Sum.inl kf))]) 0 0 := by
  refine my_ofV (cc := prog_8_method_5_code) (n := 3) (ret := none) (by decide) rfl (Nat.le_of_ble_eq_true rfl) ?_
  intro p e s m args below meth c R Q A ls H locs hx hb hr hts hown hlocks hml hnm hR hQ hA hl hP hK hN hD hS
  have hg : ∀ w ∈ gw, w.before args s = true := fun w h => hts w (List.mem_cons_of_mem _ h)
  have hown : s.vm.findClass "RangeCoders$Ranged" = some m.cls := hown
  have hl : lv_has ls 3 [(0, Value.ref co), (1, Value.ref oo), (2, Value.ref ka)] := hl
  refine lv_aload_n hx hb d_Ranged_prepare_0 rfl (lv_at hl 1 rfl) ?_
  refine lv_aload_n hx hb d_Ranged_prepare_1 rfl (lv_at hl 2 rfl) ?_
  refine my_cv (wr := [(co, Sum.inr (1, [Value.int xcache, Value.int xpending, Value.long xlow, Value.long xrange, Value.long xcode, Value.long xreadLow, Value.long xreadRange, Value.ref ri, Value.ref ro, Value.ref rw, Value.int xasked]))]) (va_runV (As := [Value.ref ka]) (rest := []) ⟨hx, hb, hml, hown, hts⟩ (f_Odds_fromCounts l dC dI cI cM cO H.size oo osg ofc oca opa n ocf opl opf osm ka kf C (by first | assumption | omega) (by first | assumption | omega) (by first | assumption | omega) (by first | assumption | omega)) (cwV 1 hts (my_gV k367 k368 k369 k14 k370) rfl rfl rfl cu_Odds_fromCounts_1 ⟨by rw [hR]; exact Nat.le_of_ble_eq_true rfl, by rw [hR]; exact Nat.le_of_ble_eq_true rfl⟩) (my_preV hK hN (hP.sub [1, 2, 3, 4] rfl) (hD.sub [1, 2, 3, 4] (by decide +kernel) rfl) 0 rfl rfl) rfl rfl hl.1 rfl (lv_room (Nat.le_of_ble_eq_true rfl)) d_Ranged_prepare_2 ⟨by rw [hR]; exact Nat.le_of_ble_eq_true rfl, by rw [hR]; exact Nat.le_of_ble_eq_true rfl⟩) hP hD hS hA [1, 2, 3, 4] [0] rfl rfl (by decide +kernel) (by decide +kernel) (fun u9 H locs hw_2 hP hD hS => ?_)
  obtain ⟨ocfq_2, rfl⟩ : ∃ z, z = u9 := ⟨_, rfl⟩
  have hf_2 : tbI ocfq_2 n (les n C) := hw_2
  have hPD : my_PD (dC, dI) vwCl A [(co, Sum.inr (1, [Value.int xcache, Value.int xpending, Value.long xlow, Value.long xrange, Value.long xcode, Value.long xreadLow, Value.long xreadRange, Value.ref ri, Value.ref ro, Value.ref rw, Value.int xasked])), (oo, Sum.inr (7, [Value.int osg, Value.int (nI (ns (les n C) n)), Value.int ofc, Value.ref oca, Value.ref opa])), (oca, Sum.inl (cI, n, Sum.inl ocfq_2)), (opa, Sum.inl (cI, opl, Sum.inl opf)), (ka, Sum.inl (cI, n, Sum.inl kf))] H := ⟨hP, hD⟩
  have hP := hPD.1
  have hD := hPD.2
  exact my_vret hx hb hr hlocks hQ hK hS (Nat.le_refl _) (Nat.le_refl _) (ocfq_2) (hf_2) (hP.sub [0, 1, 2, 3, 4] rfl) (hD.sub [0, 1, 2, 3, 4] (by decide +kernel) rfl) d_Ranged_prepare_5
set_option maxHeartbeats 2000000 in
set_option maxRecDepth 100000 in
theorem f_Carries_canWrite (l : Launch) (dC : Nat → ClassId) (dI : Nat → Nat → Nat) (cI cM cO : ClassId) (sz : Nat) (co : Nat) (xcache : Int32) (xpending : Int32) (xlow : Int64) (xrange : Int64) (xcode : Int64) (xreadLow : Int64) (xreadRange : Int64) (ri : Nat) (ro : Nat) (rw : Nat) (xasked : Int32) (oo : Nat) (osg : Int32) (ofc : Int32) (oca : Nat) (opa : Nat) (n : Nat) (ocf : Nat → Int32) (opl : Nat) (opf : Nat → Int32) (F : Nat → Nat) (osm : Int32) (t : Nat) (hn : n ≤ 64) (hpl : opl ≤ 512) (hf : tbI ocf n F) (ht : t < n) (hfc : ofc ≤ nI t) (hFb : F t < 2 ^ 31) : MetI l y_Coder_canWrite (Cond.code y_Coder_canWrite prog_4_method_12_code 3 (some .boolean) :: gw) ({ frames := 2, cells := 0, slots := 0, locals := 42 } : Room) (dC, dI) vwCl (kT cI cM cO) [Value.ref co, Value.ref oo, Value.int (nI t)] [(co, Sum.inr (1, [Value.int xcache, Value.int xpending, Value.long xlow, Value.long xrange, Value.long xcode, Value.long xreadLow, Value.long xreadRange, Value.ref ri, Value.ref ro, Value.ref rw, Value.int xasked])), (oo, Sum.inr (7, [Value.int osg, Value.int osm, Value.int ofc, Value.ref oca, Value.ref opa])), (oca, Sum.inl (cI, n, Sum.inl ocf)), (opa, Sum.inl (cI, opl, Sum.inl opf))] sz (fun (r : Int32) (u : Unit) => r = if 0 < F t then 1 else 0) (fun (u : Unit) => [(co, Sum.inr (1, [Value.int xcache, Value.int xpending, Value.long xlow, Value.long xrange, Value.long xcode, Value.long xreadLow, Value.long xreadRange, Value.ref ri, Value.ref ro, Value.ref rw, Value.int xasked])), (oo, Sum.inr (7, [Value.int osg, Value.int osm, Value.int ofc, Value.ref oca, Value.ref opa])), (oca, Sum.inl (cI, n, Sum.inl ocf)), (opa, Sum.inl (cI, opl, Sum.inl opf))]) 0 0 := by
  refine my_ofI (cc := prog_4_method_12_code) (n := 3) (ret := (some .boolean)) (by decide) rfl (Nat.le_of_ble_eq_true rfl) ?_
  intro p e s m args below meth c R Q A ls H locs hx hb hr hts hown hlocks hml hnm hR hQ hA hl hP hK hN hD hS
  have hg : ∀ w ∈ gw, w.before args s = true := fun w h => hts w (List.mem_cons_of_mem _ h)
  have hown : s.vm.findClass "RangeCoders$Coder" = some m.cls := hown
  have hl : lv_has ls 3 [(0, Value.ref co), (1, Value.ref oo), (2, Value.int (nI t))] := hl
  refine lv_aload_n hx hb d_Coder_canWrite_0 rfl (lv_at hl 1 rfl) ?_
  refine lv_iload_n hx hb d_Coder_canWrite_1 rfl (lv_at hl 2 rfl) ?_
  refine my_ci (wr := [(co, Sum.inr (1, [Value.int xcache, Value.int xpending, Value.long xlow, Value.long xrange, Value.long xcode, Value.long xreadLow, Value.long xreadRange, Value.ref ri, Value.ref ro, Value.ref rw, Value.int xasked]))]) (va_runV (As := [Value.int (nI t)]) (rest := []) ⟨hx, hb, hml, hown, hts⟩ (f_Odds_at l dC dI cI cM cO H.size oo osg ofc oca opa n ocf opl opf osm t (by first | assumption | omega) (by first | assumption | omega) (by first | assumption | omega) (by first | assumption | omega)) (cwV 1 hts (my_gV k435 k436 k437 k14 k438) rfl rfl rfl cu_Odds_at_1 ⟨by rw [hR]; exact Nat.le_of_ble_eq_true rfl, by rw [hR]; exact Nat.le_of_ble_eq_true rfl⟩) (my_preV hK hN (hP.sub [1, 2, 3] rfl) (hD.sub [1, 2, 3] (by decide +kernel) rfl) 0 rfl rfl) rfl rfl hl.1 rfl (lv_room (Nat.le_of_ble_eq_true rfl)) d_Coder_canWrite_2 ⟨by rw [hR]; exact Nat.le_of_ble_eq_true rfl, by rw [hR]; exact Nat.le_of_ble_eq_true rfl⟩) hP hD hS hA [1, 2, 3] [0] rfl rfl (by decide +kernel) (by decide +kernel) (fun r_2 u9 H locs hw_2 hP hD hS => ?_)
  have hr_2 : r_2 = ocf t := hw_2
  have hPD : my_PD (dC, dI) vwCl A [(co, Sum.inr (1, [Value.int xcache, Value.int xpending, Value.long xlow, Value.long xrange, Value.long xcode, Value.long xreadLow, Value.long xreadRange, Value.ref ri, Value.ref ro, Value.ref rw, Value.int xasked])), (oo, Sum.inr (7, [Value.int osg, Value.int osm, Value.int ofc, Value.ref oca, Value.ref opa])), (oca, Sum.inl (cI, n, Sum.inl ocf)), (opa, Sum.inl (cI, opl, Sum.inl opf))] H := ⟨hP, hD⟩
  have hP := hPD.1
  have hD := hPD.2
  refine lv_if_le (tgt := 12) hx hb d_Coder_canWrite_5 (by decide) (fun c_1 => ?_) (fun c_1 => ?_)
  · refine lv_iconst (v := 0) hx hb d_Coder_canWrite_12 (by decide) ?_
    exact my_iret (v := 0) hx hb hr (rfl) hlocks hQ hK hS (Nat.le_refl _) (Nat.le_refl _) () (by rw [hr_2, hf t ht] at c_1; rw [if_neg (fun q => absurd (nI_pos0 q hFb) (Int32.not_lt.mpr c_1))]) (hP.sub [0, 1, 2, 3] rfl) (hD.sub [0, 1, 2, 3] (by decide +kernel) rfl) d_Coder_canWrite_13
  · refine lv_iconst (v := 1) hx hb d_Coder_canWrite_8 (by decide) ?_
    refine lv_goto (tgt := 13) hx hb d_Coder_canWrite_9 (by decide) ?_
    exact my_iret (v := 1) hx hb hr (rfl) hlocks hQ hK hS (Nat.le_refl _) (Nat.le_refl _) () (by rw [hr_2, hf t ht] at c_1; rw [if_pos (by rcases Nat.eq_zero_or_pos (F t) with q | q; exact absurd (by rw [q]; exact Int32.le_refl _) c_1; exact q)]) (hP.sub [0, 1, 2, 3] rfl) (hD.sub [0, 1, 2, 3] (by decide +kernel) rfl) d_Coder_canWrite_13
set_option maxHeartbeats 2000000 in
set_option maxRecDepth 100000 in
theorem f_NoCarries_prepare (l : Launch) (dC : Nat → ClassId) (dI : Nat → Nat → Nat) (cI cM cO : ClassId) (sz : Nat) (co : Nat) (xlow : Int64) (xrange : Int64) (xcode : Int64) (xreadLow : Int64) (xreadRange : Int64) (ri : Nat) (ro : Nat) (rw : Nat) (xasked : Int32) (oo : Nat) (osg : Int32) (ofc : Int32) (oca : Nat) (opa : Nat) (n : Nat) (ocf : Nat → Int32) (opl : Nat) (opf : Nat → Int32) (osm : Int32) (ka : Nat) (kf : Nat → Int32) (C : Nat → Nat) (hn : n ≤ 64) (hpl : opl ≤ 512) (hk : tbI kf n C) (hB : bd C n 4095) : MetV l y_Ranged_prepare (Cond.code y_Ranged_prepare prog_8_method_5_code 3 none :: gw) ({ frames := 2, cells := 0, slots := 0, locals := 44 } : Room) (dC, dI) vwCl (kT cI cM cO) [Value.ref co, Value.ref oo, Value.ref ka] [(co, Sum.inr (2, [Value.long xlow, Value.long xrange, Value.long xcode, Value.long xreadLow, Value.long xreadRange, Value.ref ri, Value.ref ro, Value.ref rw, Value.int xasked])), (oo, Sum.inr (7, [Value.int osg, Value.int osm, Value.int ofc, Value.ref oca, Value.ref opa])), (oca, Sum.inl (cI, n, Sum.inl ocf)), (opa, Sum.inl (cI, opl, Sum.inl opf)), (ka, Sum.inl (cI, n, Sum.inl kf))] sz (fun (u : (Nat → Int32)) => tbI u n (les n C)) (fun (u : (Nat → Int32)) => [(co, Sum.inr (2, [Value.long xlow, Value.long xrange, Value.long xcode, Value.long xreadLow, Value.long xreadRange, Value.ref ri, Value.ref ro, Value.ref rw, Value.int xasked])), (oo, Sum.inr (7, [Value.int osg, Value.int (nI (ns (les n C) n)), Value.int ofc, Value.ref oca, Value.ref opa])), (oca, Sum.inl (cI, n, Sum.inl u)), (opa, Sum.inl (cI, opl, Sum.inl opf)), (ka, Sum.inl (cI, n, Sum.inl kf))]) 0 0 := by
  refine my_ofV (cc := prog_8_method_5_code) (n := 3) (ret := none) (by decide) rfl (Nat.le_of_ble_eq_true rfl) ?_
  intro p e s m args below meth c R Q A ls H locs hx hb hr hts hown hlocks hml hnm hR hQ hA hl hP hK hN hD hS
  have hg : ∀ w ∈ gw, w.before args s = true := fun w h => hts w (List.mem_cons_of_mem _ h)
  have hown : s.vm.findClass "RangeCoders$Ranged" = some m.cls := hown
  have hl : lv_has ls 3 [(0, Value.ref co), (1, Value.ref oo), (2, Value.ref ka)] := hl
  refine lv_aload_n hx hb d_Ranged_prepare_0 rfl (lv_at hl 1 rfl) ?_
  refine lv_aload_n hx hb d_Ranged_prepare_1 rfl (lv_at hl 2 rfl) ?_
  refine my_cv (wr := [(co, Sum.inr (2, [Value.long xlow, Value.long xrange, Value.long xcode, Value.long xreadLow, Value.long xreadRange, Value.ref ri, Value.ref ro, Value.ref rw, Value.int xasked]))]) (va_runV (As := [Value.ref ka]) (rest := []) ⟨hx, hb, hml, hown, hts⟩ (f_Odds_fromCounts l dC dI cI cM cO H.size oo osg ofc oca opa n ocf opl opf osm ka kf C (by first | assumption | omega) (by first | assumption | omega) (by first | assumption | omega) (by first | assumption | omega)) (cwV 1 hts (my_gV k367 k368 k369 k14 k370) rfl rfl rfl cu_Odds_fromCounts_1 ⟨by rw [hR]; exact Nat.le_of_ble_eq_true rfl, by rw [hR]; exact Nat.le_of_ble_eq_true rfl⟩) (my_preV hK hN (hP.sub [1, 2, 3, 4] rfl) (hD.sub [1, 2, 3, 4] (by decide +kernel) rfl) 0 rfl rfl) rfl rfl hl.1 rfl (lv_room (Nat.le_of_ble_eq_true rfl)) d_Ranged_prepare_2 ⟨by rw [hR]; exact Nat.le_of_ble_eq_true rfl, by rw [hR]; exact Nat.le_of_ble_eq_true rfl⟩) hP hD hS hA [1, 2, 3, 4] [0] rfl rfl (by decide +kernel) (by decide +kernel) (fun u9 H locs hw_2 hP hD hS => ?_)
  obtain ⟨ocfq_2, rfl⟩ : ∃ z, z = u9 := ⟨_, rfl⟩
  have hf_2 : tbI ocfq_2 n (les n C) := hw_2
  have hPD : my_PD (dC, dI) vwCl A [(co, Sum.inr (2, [Value.long xlow, Value.long xrange, Value.long xcode, Value.long xreadLow, Value.long xreadRange, Value.ref ri, Value.ref ro, Value.ref rw, Value.int xasked])), (oo, Sum.inr (7, [Value.int osg, Value.int (nI (ns (les n C) n)), Value.int ofc, Value.ref oca, Value.ref opa])), (oca, Sum.inl (cI, n, Sum.inl ocfq_2)), (opa, Sum.inl (cI, opl, Sum.inl opf)), (ka, Sum.inl (cI, n, Sum.inl kf))] H := ⟨hP, hD⟩
  have hP := hPD.1
  have hD := hPD.2
  exact my_vret hx hb hr hlocks hQ hK hS (Nat.le_refl _) (Nat.le_refl _) (ocfq_2) (hf_2) (hP.sub [0, 1, 2, 3, 4] rfl) (hD.sub [0, 1, 2, 3, 4] (by decide +kernel) rfl) d_Ranged_prepare_5
set_option maxHeartbeats 2000000 in
set_option maxRecDepth 100000 in
theorem f_NoCarries_canWrite (l : Launch) (dC : Nat → ClassId) (dI : Nat → Nat → Nat) (cI cM cO : ClassId) (sz : Nat) (co : Nat) (xlow : Int64) (xrange : Int64) (xcode : Int64) (xreadLow : Int64) (xreadRange : Int64) (ri : Nat) (ro : Nat) (rw : Nat) (xasked : Int32) (oo : Nat) (osg : Int32) (ofc : Int32) (oca : Nat) (opa : Nat) (n : Nat) (ocf : Nat → Int32) (opl : Nat) (opf : Nat → Int32) (F : Nat → Nat) (osm : Int32) (t : Nat) (hn : n ≤ 64) (hpl : opl ≤ 512) (hf : tbI ocf n F) (ht : t < n) (hfc : ofc ≤ nI t) (hFb : F t < 2 ^ 31) : MetI l y_Coder_canWrite (Cond.code y_Coder_canWrite prog_4_method_12_code 3 (some .boolean) :: gw) ({ frames := 2, cells := 0, slots := 0, locals := 42 } : Room) (dC, dI) vwCl (kT cI cM cO) [Value.ref co, Value.ref oo, Value.int (nI t)] [(co, Sum.inr (2, [Value.long xlow, Value.long xrange, Value.long xcode, Value.long xreadLow, Value.long xreadRange, Value.ref ri, Value.ref ro, Value.ref rw, Value.int xasked])), (oo, Sum.inr (7, [Value.int osg, Value.int osm, Value.int ofc, Value.ref oca, Value.ref opa])), (oca, Sum.inl (cI, n, Sum.inl ocf)), (opa, Sum.inl (cI, opl, Sum.inl opf))] sz (fun (r : Int32) (u : Unit) => r = if 0 < F t then 1 else 0) (fun (u : Unit) => [(co, Sum.inr (2, [Value.long xlow, Value.long xrange, Value.long xcode, Value.long xreadLow, Value.long xreadRange, Value.ref ri, Value.ref ro, Value.ref rw, Value.int xasked])), (oo, Sum.inr (7, [Value.int osg, Value.int osm, Value.int ofc, Value.ref oca, Value.ref opa])), (oca, Sum.inl (cI, n, Sum.inl ocf)), (opa, Sum.inl (cI, opl, Sum.inl opf))]) 0 0 := by
  refine my_ofI (cc := prog_4_method_12_code) (n := 3) (ret := (some .boolean)) (by decide) rfl (Nat.le_of_ble_eq_true rfl) ?_
  intro p e s m args below meth c R Q A ls H locs hx hb hr hts hown hlocks hml hnm hR hQ hA hl hP hK hN hD hS
  have hg : ∀ w ∈ gw, w.before args s = true := fun w h => hts w (List.mem_cons_of_mem _ h)
  have hown : s.vm.findClass "RangeCoders$Coder" = some m.cls := hown
  have hl : lv_has ls 3 [(0, Value.ref co), (1, Value.ref oo), (2, Value.int (nI t))] := hl
  refine lv_aload_n hx hb d_Coder_canWrite_0 rfl (lv_at hl 1 rfl) ?_
  refine lv_iload_n hx hb d_Coder_canWrite_1 rfl (lv_at hl 2 rfl) ?_
  refine my_ci (wr := [(co, Sum.inr (2, [Value.long xlow, Value.long xrange, Value.long xcode, Value.long xreadLow, Value.long xreadRange, Value.ref ri, Value.ref ro, Value.ref rw, Value.int xasked]))]) (va_runV (As := [Value.int (nI t)]) (rest := []) ⟨hx, hb, hml, hown, hts⟩ (f_Odds_at l dC dI cI cM cO H.size oo osg ofc oca opa n ocf opl opf osm t (by first | assumption | omega) (by first | assumption | omega) (by first | assumption | omega) (by first | assumption | omega)) (cwV 1 hts (my_gV k435 k436 k437 k14 k438) rfl rfl rfl cu_Odds_at_1 ⟨by rw [hR]; exact Nat.le_of_ble_eq_true rfl, by rw [hR]; exact Nat.le_of_ble_eq_true rfl⟩) (my_preV hK hN (hP.sub [1, 2, 3] rfl) (hD.sub [1, 2, 3] (by decide +kernel) rfl) 0 rfl rfl) rfl rfl hl.1 rfl (lv_room (Nat.le_of_ble_eq_true rfl)) d_Coder_canWrite_2 ⟨by rw [hR]; exact Nat.le_of_ble_eq_true rfl, by rw [hR]; exact Nat.le_of_ble_eq_true rfl⟩) hP hD hS hA [1, 2, 3] [0] rfl rfl (by decide +kernel) (by decide +kernel) (fun r_2 u9 H locs hw_2 hP hD hS => ?_)
  have hr_2 : r_2 = ocf t := hw_2
  have hPD : my_PD (dC, dI) vwCl A [(co, Sum.inr (2, [Value.long xlow, Value.long xrange, Value.long xcode, Value.long xreadLow, Value.long xreadRange, Value.ref ri, Value.ref ro, Value.ref rw, Value.int xasked])), (oo, Sum.inr (7, [Value.int osg, Value.int osm, Value.int ofc, Value.ref oca, Value.ref opa])), (oca, Sum.inl (cI, n, Sum.inl ocf)), (opa, Sum.inl (cI, opl, Sum.inl opf))] H := ⟨hP, hD⟩
  have hP := hPD.1
  have hD := hPD.2
  refine lv_if_le (tgt := 12) hx hb d_Coder_canWrite_5 (by decide) (fun c_1 => ?_) (fun c_1 => ?_)
  · refine lv_iconst (v := 0) hx hb d_Coder_canWrite_12 (by decide) ?_
    exact my_iret (v := 0) hx hb hr (rfl) hlocks hQ hK hS (Nat.le_refl _) (Nat.le_refl _) () (by rw [hr_2, hf t ht] at c_1; rw [if_neg (fun q => absurd (nI_pos0 q hFb) (Int32.not_lt.mpr c_1))]) (hP.sub [0, 1, 2, 3] rfl) (hD.sub [0, 1, 2, 3] (by decide +kernel) rfl) d_Coder_canWrite_13
  · refine lv_iconst (v := 1) hx hb d_Coder_canWrite_8 (by decide) ?_
    refine lv_goto (tgt := 13) hx hb d_Coder_canWrite_9 (by decide) ?_
    exact my_iret (v := 1) hx hb hr (rfl) hlocks hQ hK hS (Nat.le_refl _) (Nat.le_refl _) () (by rw [hr_2, hf t ht] at c_1; rw [if_pos (by rcases Nat.eq_zero_or_pos (F t) with q | q; exact absurd (by rw [q]; exact Int32.le_refl _) c_1; exact q)]) (hP.sub [0, 1, 2, 3] rfl) (hD.sub [0, 1, 2, 3] (by decide +kernel) rfl) d_Coder_canWrite_13
set_option maxHeartbeats 2000000 in
set_option maxRecDepth 100000 in
theorem f_Bits_prepare (l : Launch) (dC : Nat → ClassId) (dI : Nat → Nat → Nat) (cI cM cO : ClassId) (sz : Nat) (co : Nat) (xshift : Int32) (xkeptCode : Int64) (xkeptRange : Int64) (xkeptAsked : Int32) (xcache : Int32) (xpending : Int32) (xlow : Int64) (xrange : Int64) (xcode : Int64) (xreadLow : Int64) (xreadRange : Int64) (ri : Nat) (ro : Nat) (rw : Nat) (xasked : Int32) (oo : Nat) (osg : Int32) (ofc : Int32) (oca : Nat) (opa : Nat) (n : Nat) (ocf : Nat → Int32) (opl : Nat) (opf : Nat → Int32) (osm : Int32) (ka : Nat) (kl : Nat) (kf : Nat → Int32) (hn : n ≤ 64) (hpl : opl ≤ 512) : MetV l y_Bits_prepare (Cond.code y_Bits_prepare prog_2_method_3_code 3 none :: gw) ({ frames := 2, cells := 0, slots := 0, locals := 44 } : Room) (dC, dI) vwCl (kT cI cM cO) [Value.ref co, Value.ref oo, Value.ref ka] [(co, Sum.inr (3, [Value.int xshift, Value.long xkeptCode, Value.long xkeptRange, Value.int xkeptAsked, Value.int xcache, Value.int xpending, Value.long xlow, Value.long xrange, Value.long xcode, Value.long xreadLow, Value.long xreadRange, Value.ref ri, Value.ref ro, Value.ref rw, Value.int xasked])), (oo, Sum.inr (7, [Value.int osg, Value.int osm, Value.int ofc, Value.ref oca, Value.ref opa])), (oca, Sum.inl (cI, n, Sum.inl ocf)), (opa, Sum.inl (cI, opl, Sum.inl opf)), (ka, Sum.inl (cI, kl, Sum.inl kf))] sz (fun (u : (Nat → Int32)) => tbI u n (fun _ => 1024)) (fun (u : (Nat → Int32)) => [(co, Sum.inr (3, [Value.int xshift, Value.long xkeptCode, Value.long xkeptRange, Value.int xkeptAsked, Value.int xcache, Value.int xpending, Value.long xlow, Value.long xrange, Value.long xcode, Value.long xreadLow, Value.long xreadRange, Value.ref ri, Value.ref ro, Value.ref rw, Value.int xasked])), (oo, Sum.inr (7, [Value.int osg, Value.int (nI (1024 * n)), Value.int ofc, Value.ref oca, Value.ref opa])), (oca, Sum.inl (cI, n, Sum.inl u)), (opa, Sum.inl (cI, opl, Sum.inl opf)), (ka, Sum.inl (cI, kl, Sum.inl kf))]) 0 0 := by
  refine my_ofV (cc := prog_2_method_3_code) (n := 3) (ret := none) (by decide) rfl (Nat.le_of_ble_eq_true rfl) ?_
  intro p e s m args below meth c R Q A ls H locs hx hb hr hts hown hlocks hml hnm hR hQ hA hl hP hK hN hD hS
  have hg : ∀ w ∈ gw, w.before args s = true := fun w h => hts w (List.mem_cons_of_mem _ h)
  have hown : s.vm.findClass "RangeCoders$Bits" = some m.cls := hown
  have hl : lv_has ls 3 [(0, Value.ref co), (1, Value.ref oo), (2, Value.ref ka)] := hl
  refine lv_aload_n hx hb d_Bits_prepare_0 rfl (lv_at hl 1 rfl) ?_
  refine lv_sipush (v := 1024) hx hb d_Bits_prepare_1 (by decide) ?_
  refine W.eq (g2 := F0 m 4 ls [Value.int (nI 1024), Value.ref oo]) rfl ?_
  refine my_cv (wr := [(co, Sum.inr (3, [Value.int xshift, Value.long xkeptCode, Value.long xkeptRange, Value.int xkeptAsked, Value.int xcache, Value.int xpending, Value.long xlow, Value.long xrange, Value.long xcode, Value.long xreadLow, Value.long xreadRange, Value.ref ri, Value.ref ro, Value.ref rw, Value.int xasked])), (ka, Sum.inl (cI, kl, Sum.inl kf))]) (va_runV (As := [Value.int (nI 1024)]) (rest := []) ⟨hx, hb, hml, hown, hts⟩ (f_Odds_fill l dC dI cI cM cO H.size oo osg ofc oca opa n ocf opl opf osm 1024 (by first | assumption | omega) (by first | assumption | omega)) (cwV 1 hts (my_gV k359 k360 k361 k14 k362) rfl rfl rfl cu_Odds_fill_1 ⟨by rw [hR]; exact Nat.le_of_ble_eq_true rfl, by rw [hR]; exact Nat.le_of_ble_eq_true rfl⟩) (my_preV hK hN (hP.sub [1, 2, 3] rfl) (hD.sub [1, 2, 3] (by decide +kernel) rfl) 0 rfl rfl) rfl rfl hl.1 rfl (lv_room (Nat.le_of_ble_eq_true rfl)) d_Bits_prepare_4 ⟨by rw [hR]; exact Nat.le_of_ble_eq_true rfl, by rw [hR]; exact Nat.le_of_ble_eq_true rfl⟩) hP hD hS hA [1, 2, 3] [0, 4] rfl rfl (by decide +kernel) (by decide +kernel) (fun u9 H locs hw_4 hP hD hS => ?_)
  obtain ⟨ocfq_4, rfl⟩ : ∃ z, z = u9 := ⟨_, rfl⟩
  have hf_4 : tbI ocfq_4 n (fun _ => 1024) := hw_4
  have hPD : my_PD (dC, dI) vwCl A [(co, Sum.inr (3, [Value.int xshift, Value.long xkeptCode, Value.long xkeptRange, Value.int xkeptAsked, Value.int xcache, Value.int xpending, Value.long xlow, Value.long xrange, Value.long xcode, Value.long xreadLow, Value.long xreadRange, Value.ref ri, Value.ref ro, Value.ref rw, Value.int xasked])), (ka, Sum.inl (cI, kl, Sum.inl kf)), (oo, Sum.inr (7, [Value.int osg, Value.int (nI (1024 * n)), Value.int ofc, Value.ref oca, Value.ref opa])), (oca, Sum.inl (cI, n, Sum.inl ocfq_4)), (opa, Sum.inl (cI, opl, Sum.inl opf))] H := ⟨hP, hD⟩
  have hP := hPD.1
  have hD := hPD.2
  exact my_vret hx hb hr hlocks hQ hK hS (Nat.le_refl _) (Nat.le_refl _) (ocfq_4) (hf_4) (hP.sub [0, 2, 3, 4, 1] rfl) (hD.sub [0, 2, 3, 4, 1] (by decide +kernel) rfl) d_Bits_prepare_7
set_option maxHeartbeats 2000000 in
set_option maxRecDepth 100000 in
theorem f_Stack_prepare (l : Launch) (dC : Nat → ClassId) (dI : Nat → Nat → Nat) (cI cM cO : ClassId) (sz : Nat) (co : Nat) (xx : Int64) (xreadX : Int64) (soa : Nat) (sna : Nat) (swa : Nat) (xkept : Int32) (ri : Nat) (ro : Nat) (rw : Nat) (xasked : Int32) (oo : Nat) (osg : Int32) (ofc : Int32) (oca : Nat) (opa : Nat) (n : Nat) (ocf : Nat → Int32) (opl : Nat) (opf : Nat → Int32) (osm : Int32) (ka : Nat) (kf : Nat → Int32) (C : Nat → Nat) (hn : n ≤ 64) (hpl : opl ≤ 512) (hk : tbI kf n C) (hB : bd C n 4095) (hn1 : 1 ≤ n) (hfc0 : ofc = 0) : MetV l y_Stack_prepare (Cond.code y_Stack_prepare prog_10_method_2_code 3 none :: gw) ({ frames := 3, cells := 0, slots := 0, locals := 67 } : Room) (dC, dI) vwCl (kT cI cM cO) [Value.ref co, Value.ref oo, Value.ref ka] [(co, Sum.inr (4, [Value.long xx, Value.long xreadX, Value.ref soa, Value.ref sna, Value.ref swa, Value.int xkept, Value.ref ri, Value.ref ro, Value.ref rw, Value.int xasked])), (oo, Sum.inr (7, [Value.int osg, Value.int osm, Value.int ofc, Value.ref oca, Value.ref opa])), (oca, Sum.inl (cI, n, Sum.inl ocf)), (opa, Sum.inl (cI, opl, Sum.inl opf)), (ka, Sum.inl (cI, n, Sum.inl kf))] sz (fun (u : (Nat → Int32)) => tbI u n (sc n 4096 C)) (fun (u : (Nat → Int32)) => [(co, Sum.inr (4, [Value.long xx, Value.long xreadX, Value.ref soa, Value.ref sna, Value.ref swa, Value.int xkept, Value.ref ri, Value.ref ro, Value.ref rw, Value.int xasked])), (oo, Sum.inr (7, [Value.int osg, Value.int (nI (ns (sc n 4096 C) n)), Value.int ofc, Value.ref oca, Value.ref opa])), (oca, Sum.inl (cI, n, Sum.inl u)), (opa, Sum.inl (cI, opl, Sum.inl opf)), (ka, Sum.inl (cI, n, Sum.inl kf))]) 0 0 := by
  refine my_ofV (cc := prog_10_method_2_code) (n := 3) (ret := none) (by decide) rfl (Nat.le_of_ble_eq_true rfl) ?_
  intro p e s m args below meth c R Q A ls H locs hx hb hr hts hown hlocks hml hnm hR hQ hA hl hP hK hN hD hS
  have hg : ∀ w ∈ gw, w.before args s = true := fun w h => hts w (List.mem_cons_of_mem _ h)
  have hown : s.vm.findClass "RangeCoders$Stack" = some m.cls := hown
  have hl : lv_has ls 3 [(0, Value.ref co), (1, Value.ref oo), (2, Value.ref ka)] := hl
  refine lv_aload_n hx hb d_Stack_prepare_0 rfl (lv_at hl 1 rfl) ?_
  refine lv_sipush (v := 4096) hx hb d_Stack_prepare_1 (by decide) ?_
  refine lv_aload_n hx hb d_Stack_prepare_4 rfl (lv_at hl 2 rfl) ?_
  refine W.eq (g2 := F0 m 5 ls [Value.ref ka, Value.int (nI 4096), Value.ref oo]) rfl ?_
  refine my_cv (wr := [(co, Sum.inr (4, [Value.long xx, Value.long xreadX, Value.ref soa, Value.ref sna, Value.ref swa, Value.int xkept, Value.ref ri, Value.ref ro, Value.ref rw, Value.int xasked]))]) (va_runV (As := [Value.int (nI 4096), Value.ref ka]) (rest := []) ⟨hx, hb, hml, hown, hts⟩ (f_Odds_scaleTo l dC dI cI cM cO H.size oo osg ofc oca opa n ocf opl opf osm ka kf C 4096 (by first | assumption | omega) (by first | assumption | omega) (by first | assumption | omega) (by first | assumption | omega) (by first | assumption | omega) (by decide) (by decide) (by first | assumption | omega)) (cwV 2 hts (my_gV k383 k384 k385 k14 k386) rfl rfl rfl cu_Odds_scaleTo_2 ⟨by rw [hR]; exact Nat.le_of_ble_eq_true rfl, by rw [hR]; exact Nat.le_of_ble_eq_true rfl⟩) (my_preV hK hN (hP.sub [1, 2, 3, 4] rfl) (hD.sub [1, 2, 3, 4] (by decide +kernel) rfl) 0 rfl rfl) rfl rfl hl.1 rfl (lv_room (Nat.le_of_ble_eq_true rfl)) d_Stack_prepare_5 ⟨by rw [hR]; exact Nat.le_of_ble_eq_true rfl, by rw [hR]; exact Nat.le_of_ble_eq_true rfl⟩) hP hD hS hA [1, 2, 3, 4] [0] rfl rfl (by decide +kernel) (by decide +kernel) (fun u9 H locs hw_5 hP hD hS => ?_)
  obtain ⟨ocfq_5, rfl⟩ : ∃ z, z = u9 := ⟨_, rfl⟩
  have hf_5 : tbI ocfq_5 n (sc n 4096 C) := hw_5
  have hPD : my_PD (dC, dI) vwCl A [(co, Sum.inr (4, [Value.long xx, Value.long xreadX, Value.ref soa, Value.ref sna, Value.ref swa, Value.int xkept, Value.ref ri, Value.ref ro, Value.ref rw, Value.int xasked])), (oo, Sum.inr (7, [Value.int osg, Value.int (nI (ns (sc n 4096 C) n)), Value.int ofc, Value.ref oca, Value.ref opa])), (oca, Sum.inl (cI, n, Sum.inl ocfq_5)), (opa, Sum.inl (cI, opl, Sum.inl opf)), (ka, Sum.inl (cI, n, Sum.inl kf))] H := ⟨hP, hD⟩
  have hP := hPD.1
  have hD := hPD.2
  exact my_vret hx hb hr hlocks hQ hK hS (Nat.le_refl _) (Nat.le_refl _) (ocfq_5) (hf_5) (hP.sub [0, 1, 2, 3, 4] rfl) (hD.sub [0, 1, 2, 3, 4] (by decide +kernel) rfl) d_Stack_prepare_8
set_option maxHeartbeats 2000000 in
set_option maxRecDepth 100000 in
theorem f_Stack_canWrite (l : Launch) (dC : Nat → ClassId) (dI : Nat → Nat → Nat) (cI cM cO : ClassId) (sz : Nat) (co : Nat) (xx : Int64) (xreadX : Int64) (soa : Nat) (sna : Nat) (swa : Nat) (xkept : Int32) (ri : Nat) (ro : Nat) (rw : Nat) (xasked : Int32) (oo : Nat) (osg : Int32) (ofc : Int32) (oca : Nat) (opa : Nat) (n : Nat) (ocf : Nat → Int32) (opl : Nat) (opf : Nat → Int32) (F : Nat → Nat) (osm : Int32) (t : Nat) (hn : n ≤ 64) (hpl : opl ≤ 512) (hf : tbI ocf n F) (ht : t < n) (hfc : ofc ≤ nI t) (hFb : F t < 2 ^ 31) : MetI l y_Coder_canWrite (Cond.code y_Coder_canWrite prog_4_method_12_code 3 (some .boolean) :: gw) ({ frames := 2, cells := 0, slots := 0, locals := 42 } : Room) (dC, dI) vwCl (kT cI cM cO) [Value.ref co, Value.ref oo, Value.int (nI t)] [(co, Sum.inr (4, [Value.long xx, Value.long xreadX, Value.ref soa, Value.ref sna, Value.ref swa, Value.int xkept, Value.ref ri, Value.ref ro, Value.ref rw, Value.int xasked])), (oo, Sum.inr (7, [Value.int osg, Value.int osm, Value.int ofc, Value.ref oca, Value.ref opa])), (oca, Sum.inl (cI, n, Sum.inl ocf)), (opa, Sum.inl (cI, opl, Sum.inl opf))] sz (fun (r : Int32) (u : Unit) => r = if 0 < F t then 1 else 0) (fun (u : Unit) => [(co, Sum.inr (4, [Value.long xx, Value.long xreadX, Value.ref soa, Value.ref sna, Value.ref swa, Value.int xkept, Value.ref ri, Value.ref ro, Value.ref rw, Value.int xasked])), (oo, Sum.inr (7, [Value.int osg, Value.int osm, Value.int ofc, Value.ref oca, Value.ref opa])), (oca, Sum.inl (cI, n, Sum.inl ocf)), (opa, Sum.inl (cI, opl, Sum.inl opf))]) 0 0 := by
  refine my_ofI (cc := prog_4_method_12_code) (n := 3) (ret := (some .boolean)) (by decide) rfl (Nat.le_of_ble_eq_true rfl) ?_
  intro p e s m args below meth c R Q A ls H locs hx hb hr hts hown hlocks hml hnm hR hQ hA hl hP hK hN hD hS
  have hg : ∀ w ∈ gw, w.before args s = true := fun w h => hts w (List.mem_cons_of_mem _ h)
  have hown : s.vm.findClass "RangeCoders$Coder" = some m.cls := hown
  have hl : lv_has ls 3 [(0, Value.ref co), (1, Value.ref oo), (2, Value.int (nI t))] := hl
  refine lv_aload_n hx hb d_Coder_canWrite_0 rfl (lv_at hl 1 rfl) ?_
  refine lv_iload_n hx hb d_Coder_canWrite_1 rfl (lv_at hl 2 rfl) ?_
  refine my_ci (wr := [(co, Sum.inr (4, [Value.long xx, Value.long xreadX, Value.ref soa, Value.ref sna, Value.ref swa, Value.int xkept, Value.ref ri, Value.ref ro, Value.ref rw, Value.int xasked]))]) (va_runV (As := [Value.int (nI t)]) (rest := []) ⟨hx, hb, hml, hown, hts⟩ (f_Odds_at l dC dI cI cM cO H.size oo osg ofc oca opa n ocf opl opf osm t (by first | assumption | omega) (by first | assumption | omega) (by first | assumption | omega) (by first | assumption | omega)) (cwV 1 hts (my_gV k435 k436 k437 k14 k438) rfl rfl rfl cu_Odds_at_1 ⟨by rw [hR]; exact Nat.le_of_ble_eq_true rfl, by rw [hR]; exact Nat.le_of_ble_eq_true rfl⟩) (my_preV hK hN (hP.sub [1, 2, 3] rfl) (hD.sub [1, 2, 3] (by decide +kernel) rfl) 0 rfl rfl) rfl rfl hl.1 rfl (lv_room (Nat.le_of_ble_eq_true rfl)) d_Coder_canWrite_2 ⟨by rw [hR]; exact Nat.le_of_ble_eq_true rfl, by rw [hR]; exact Nat.le_of_ble_eq_true rfl⟩) hP hD hS hA [1, 2, 3] [0] rfl rfl (by decide +kernel) (by decide +kernel) (fun r_2 u9 H locs hw_2 hP hD hS => ?_)
  have hr_2 : r_2 = ocf t := hw_2
  have hPD : my_PD (dC, dI) vwCl A [(co, Sum.inr (4, [Value.long xx, Value.long xreadX, Value.ref soa, Value.ref sna, Value.ref swa, Value.int xkept, Value.ref ri, Value.ref ro, Value.ref rw, Value.int xasked])), (oo, Sum.inr (7, [Value.int osg, Value.int osm, Value.int ofc, Value.ref oca, Value.ref opa])), (oca, Sum.inl (cI, n, Sum.inl ocf)), (opa, Sum.inl (cI, opl, Sum.inl opf))] H := ⟨hP, hD⟩
  have hP := hPD.1
  have hD := hPD.2
  refine lv_if_le (tgt := 12) hx hb d_Coder_canWrite_5 (by decide) (fun c_1 => ?_) (fun c_1 => ?_)
  · refine lv_iconst (v := 0) hx hb d_Coder_canWrite_12 (by decide) ?_
    exact my_iret (v := 0) hx hb hr (rfl) hlocks hQ hK hS (Nat.le_refl _) (Nat.le_refl _) () (by rw [hr_2, hf t ht] at c_1; rw [if_neg (fun q => absurd (nI_pos0 q hFb) (Int32.not_lt.mpr c_1))]) (hP.sub [0, 1, 2, 3] rfl) (hD.sub [0, 1, 2, 3] (by decide +kernel) rfl) d_Coder_canWrite_13
  · refine lv_iconst (v := 1) hx hb d_Coder_canWrite_8 (by decide) ?_
    refine lv_goto (tgt := 13) hx hb d_Coder_canWrite_9 (by decide) ?_
    exact my_iret (v := 1) hx hb hr (rfl) hlocks hQ hK hS (Nat.le_refl _) (Nat.le_refl _) () (by rw [hr_2, hf t ht] at c_1; rw [if_pos (by rcases Nat.eq_zero_or_pos (F t) with q | q; exact absurd (by rw [q]; exact Int32.le_refl _) c_1; exact q)]) (hP.sub [0, 1, 2, 3] rfl) (hD.sub [0, 1, 2, 3] (by decide +kernel) rfl) d_Coder_canWrite_13
set_option maxHeartbeats 2000000 in
set_option maxRecDepth 100000 in
theorem f_Table_prepare (l : Launch) (dC : Nat → ClassId) (dI : Nat → Nat → Nat) (cI cM cO : ClassId) (sz : Nat) (co : Nat) (xx : Int64) (xreadX : Int64) (soa : Nat) (sna : Nat) (swa : Nat) (xkept : Int32) (ri : Nat) (ro : Nat) (rw : Nat) (xasked : Int32) (oo : Nat) (osg : Int32) (ofc : Int32) (oca : Nat) (opa : Nat) (n : Nat) (ocf : Nat → Int32) (opf : Nat → Int32) (osm : Int32) (ka : Nat) (kf : Nat → Int32) (C : Nat → Nat) (hn : n ≤ 64) (hk : tbI kf n C) (hB : bd C n 4095) (hn1 : 1 ≤ n) (hfc0 : ofc = 0) : MetV l y_Table_prepare (Cond.code y_Table_prepare prog_12_method_3_code 3 none :: gw) ({ frames := 3, cells := 0, slots := 0, locals := 67 } : Room) (dC, dI) vwCl (kT cI cM cO) [Value.ref co, Value.ref oo, Value.ref ka] [(co, Sum.inr (5, [Value.long xx, Value.long xreadX, Value.ref soa, Value.ref sna, Value.ref swa, Value.int xkept, Value.ref ri, Value.ref ro, Value.ref rw, Value.int xasked])), (oo, Sum.inr (7, [Value.int osg, Value.int osm, Value.int ofc, Value.ref oca, Value.ref opa])), (oca, Sum.inl (cI, n, Sum.inl ocf)), (opa, Sum.inl (cI, 512, Sum.inl opf)), (ka, Sum.inl (cI, n, Sum.inl kf))] sz (fun (u : (Nat → Int32) × (Nat → Int32)) => tbI u.1 n (sc n 512 C) ∧ layt u.2 (sc n 512 C) n (ns (sc n 512 C) n)) (fun (u : (Nat → Int32) × (Nat → Int32)) => [(co, Sum.inr (5, [Value.long xx, Value.long xreadX, Value.ref soa, Value.ref sna, Value.ref swa, Value.int xkept, Value.ref ri, Value.ref ro, Value.ref rw, Value.int xasked])), (oo, Sum.inr (7, [Value.int osg, Value.int (nI (ns (sc n 512 C) n)), Value.int ofc, Value.ref oca, Value.ref opa])), (oca, Sum.inl (cI, n, Sum.inl u.1)), (opa, Sum.inl (cI, 512, Sum.inl u.2)), (ka, Sum.inl (cI, n, Sum.inl kf))]) 0 0 := by
  refine my_ofV (cc := prog_12_method_3_code) (n := 3) (ret := none) (by decide) rfl (Nat.le_of_ble_eq_true rfl) ?_
  intro p e s m args below meth c R Q A ls H locs hx hb hr hts hown hlocks hml hnm hR hQ hA hl hP hK hN hD hS
  have hg : ∀ w ∈ gw, w.before args s = true := fun w h => hts w (List.mem_cons_of_mem _ h)
  have hown : s.vm.findClass "RangeCoders$Table" = some m.cls := hown
  have hl : lv_has ls 3 [(0, Value.ref co), (1, Value.ref oo), (2, Value.ref ka)] := hl
  refine lv_aload_n hx hb d_Table_prepare_0 rfl (lv_at hl 1 rfl) ?_
  refine lv_sipush (v := 512) hx hb d_Table_prepare_1 (by decide) ?_
  refine lv_aload_n hx hb d_Table_prepare_4 rfl (lv_at hl 2 rfl) ?_
  refine W.eq (g2 := F0 m 5 ls [Value.ref ka, Value.int (nI 512), Value.ref oo]) rfl ?_
  refine my_cv (wr := [(co, Sum.inr (5, [Value.long xx, Value.long xreadX, Value.ref soa, Value.ref sna, Value.ref swa, Value.int xkept, Value.ref ri, Value.ref ro, Value.ref rw, Value.int xasked]))]) (va_runV (As := [Value.int (nI 512), Value.ref ka]) (rest := []) ⟨hx, hb, hml, hown, hts⟩ (f_Odds_scaleTo l dC dI cI cM cO H.size oo osg ofc oca opa n ocf 512 opf osm ka kf C 512 (by first | assumption | omega) (by decide) (by first | assumption | omega) (by first | assumption | omega) (by first | assumption | omega) (by decide) (by decide) (by first | assumption | omega)) (cwV 2 hts (my_gV k403 k384 k385 k14 k386) rfl rfl rfl cu_Odds_scaleTo_2 ⟨by rw [hR]; exact Nat.le_of_ble_eq_true rfl, by rw [hR]; exact Nat.le_of_ble_eq_true rfl⟩) (my_preV hK hN (hP.sub [1, 2, 3, 4] rfl) (hD.sub [1, 2, 3, 4] (by decide +kernel) rfl) 0 rfl rfl) rfl rfl hl.1 rfl (lv_room (Nat.le_of_ble_eq_true rfl)) d_Table_prepare_5 ⟨by rw [hR]; exact Nat.le_of_ble_eq_true rfl, by rw [hR]; exact Nat.le_of_ble_eq_true rfl⟩) hP hD hS hA [1, 2, 3, 4] [0] rfl rfl (by decide +kernel) (by decide +kernel) (fun u9 H locs hw_5 hP hD hS => ?_)
  obtain ⟨ocfq_5, rfl⟩ : ∃ z, z = u9 := ⟨_, rfl⟩
  have hf_5 : tbI ocfq_5 n (sc n 512 C) := hw_5
  have hPD : my_PD (dC, dI) vwCl A [(co, Sum.inr (5, [Value.long xx, Value.long xreadX, Value.ref soa, Value.ref sna, Value.ref swa, Value.int xkept, Value.ref ri, Value.ref ro, Value.ref rw, Value.int xasked])), (oo, Sum.inr (7, [Value.int osg, Value.int (nI (ns (sc n 512 C) n)), Value.int ofc, Value.ref oca, Value.ref opa])), (oca, Sum.inl (cI, n, Sum.inl ocfq_5)), (opa, Sum.inl (cI, 512, Sum.inl opf)), (ka, Sum.inl (cI, n, Sum.inl kf))] H := ⟨hP, hD⟩
  have hP := hPD.1
  have hD := hPD.2
  refine lv_aload_n hx hb d_Table_prepare_8 rfl (lv_at hl 1 rfl) ?_
  refine my_cv (wr := [(co, Sum.inr (5, [Value.long xx, Value.long xreadX, Value.ref soa, Value.ref sna, Value.ref swa, Value.int xkept, Value.ref ri, Value.ref ro, Value.ref rw, Value.int xasked])), (ka, Sum.inl (cI, n, Sum.inl kf))]) (va_runV (As := []) (rest := []) ⟨hx, hb, hml, hown, hts⟩ (f_Odds_spread l dC dI cI cM cO H.size oo osg ofc oca opa n ocfq_5 512 opf (sc n 512 C) (nI (ns (sc n 512 C) n)) (by first | assumption | omega) (by decide) (hf_5) (by rcases sc_ok (n := n) (M := 512) (F := C) (by omega) with z | z <;> omega)) (cwV 0 hts (my_gV k404 k405 k406 k14 k407) rfl rfl rfl cu_Odds_spread_0 ⟨by rw [hR]; exact Nat.le_of_ble_eq_true rfl, by rw [hR]; exact Nat.le_of_ble_eq_true rfl⟩) (my_preV hK hN (hP.sub [1, 2, 3] rfl) (hD.sub [1, 2, 3] (by decide +kernel) rfl) 0 rfl rfl) rfl rfl hl.1 rfl (lv_room (Nat.le_of_ble_eq_true rfl)) d_Table_prepare_9 ⟨by rw [hR]; exact Nat.le_of_ble_eq_true rfl, by rw [hR]; exact Nat.le_of_ble_eq_true rfl⟩) hP hD hS hA [1, 2, 3] [0, 4] rfl rfl (by decide +kernel) (by decide +kernel) (fun u9 H locs hw_9 hP hD hS => ?_)
  obtain ⟨opfq_9, rfl⟩ : ∃ z, z = u9 := ⟨_, rfl⟩
  have hl_9 : layt opfq_9 (sc n 512 C) n (ns (sc n 512 C) n) := hw_9
  have hPD : my_PD (dC, dI) vwCl A [(co, Sum.inr (5, [Value.long xx, Value.long xreadX, Value.ref soa, Value.ref sna, Value.ref swa, Value.int xkept, Value.ref ri, Value.ref ro, Value.ref rw, Value.int xasked])), (ka, Sum.inl (cI, n, Sum.inl kf)), (oo, Sum.inr (7, [Value.int osg, Value.int (nI (ns (sc n 512 C) n)), Value.int ofc, Value.ref oca, Value.ref opa])), (oca, Sum.inl (cI, n, Sum.inl ocfq_5)), (opa, Sum.inl (cI, 512, Sum.inl opfq_9))] H := ⟨hP, hD⟩
  have hP := hPD.1
  have hD := hPD.2
  exact my_vret hx hb hr hlocks hQ hK hS (Nat.le_refl _) (Nat.le_refl _) (ocfq_5, opfq_9) (⟨hf_5, hl_9⟩) (hP.sub [0, 2, 3, 4, 1] rfl) (hD.sub [0, 2, 3, 4, 1] (by decide +kernel) rfl) d_Table_prepare_12
set_option maxHeartbeats 2000000 in
set_option maxRecDepth 100000 in
theorem f_Table_canWrite (l : Launch) (dC : Nat → ClassId) (dI : Nat → Nat → Nat) (cI cM cO : ClassId) (sz : Nat) (co : Nat) (xx : Int64) (xreadX : Int64) (soa : Nat) (sna : Nat) (swa : Nat) (xkept : Int32) (ri : Nat) (ro : Nat) (rw : Nat) (xasked : Int32) (oo : Nat) (osg : Int32) (ofc : Int32) (oca : Nat) (opa : Nat) (n : Nat) (ocf : Nat → Int32) (opl : Nat) (opf : Nat → Int32) (F : Nat → Nat) (osm : Int32) (t : Nat) (hn : n ≤ 64) (hpl : opl ≤ 512) (hf : tbI ocf n F) (ht : t < n) (hfc : ofc ≤ nI t) (hFb : F t < 2 ^ 31) : MetI l y_Coder_canWrite (Cond.code y_Coder_canWrite prog_4_method_12_code 3 (some .boolean) :: gw) ({ frames := 2, cells := 0, slots := 0, locals := 42 } : Room) (dC, dI) vwCl (kT cI cM cO) [Value.ref co, Value.ref oo, Value.int (nI t)] [(co, Sum.inr (5, [Value.long xx, Value.long xreadX, Value.ref soa, Value.ref sna, Value.ref swa, Value.int xkept, Value.ref ri, Value.ref ro, Value.ref rw, Value.int xasked])), (oo, Sum.inr (7, [Value.int osg, Value.int osm, Value.int ofc, Value.ref oca, Value.ref opa])), (oca, Sum.inl (cI, n, Sum.inl ocf)), (opa, Sum.inl (cI, opl, Sum.inl opf))] sz (fun (r : Int32) (u : Unit) => r = if 0 < F t then 1 else 0) (fun (u : Unit) => [(co, Sum.inr (5, [Value.long xx, Value.long xreadX, Value.ref soa, Value.ref sna, Value.ref swa, Value.int xkept, Value.ref ri, Value.ref ro, Value.ref rw, Value.int xasked])), (oo, Sum.inr (7, [Value.int osg, Value.int osm, Value.int ofc, Value.ref oca, Value.ref opa])), (oca, Sum.inl (cI, n, Sum.inl ocf)), (opa, Sum.inl (cI, opl, Sum.inl opf))]) 0 0 := by
  refine my_ofI (cc := prog_4_method_12_code) (n := 3) (ret := (some .boolean)) (by decide) rfl (Nat.le_of_ble_eq_true rfl) ?_
  intro p e s m args below meth c R Q A ls H locs hx hb hr hts hown hlocks hml hnm hR hQ hA hl hP hK hN hD hS
  have hg : ∀ w ∈ gw, w.before args s = true := fun w h => hts w (List.mem_cons_of_mem _ h)
  have hown : s.vm.findClass "RangeCoders$Coder" = some m.cls := hown
  have hl : lv_has ls 3 [(0, Value.ref co), (1, Value.ref oo), (2, Value.int (nI t))] := hl
  refine lv_aload_n hx hb d_Coder_canWrite_0 rfl (lv_at hl 1 rfl) ?_
  refine lv_iload_n hx hb d_Coder_canWrite_1 rfl (lv_at hl 2 rfl) ?_
  refine my_ci (wr := [(co, Sum.inr (5, [Value.long xx, Value.long xreadX, Value.ref soa, Value.ref sna, Value.ref swa, Value.int xkept, Value.ref ri, Value.ref ro, Value.ref rw, Value.int xasked]))]) (va_runV (As := [Value.int (nI t)]) (rest := []) ⟨hx, hb, hml, hown, hts⟩ (f_Odds_at l dC dI cI cM cO H.size oo osg ofc oca opa n ocf opl opf osm t (by first | assumption | omega) (by first | assumption | omega) (by first | assumption | omega) (by first | assumption | omega)) (cwV 1 hts (my_gV k435 k436 k437 k14 k438) rfl rfl rfl cu_Odds_at_1 ⟨by rw [hR]; exact Nat.le_of_ble_eq_true rfl, by rw [hR]; exact Nat.le_of_ble_eq_true rfl⟩) (my_preV hK hN (hP.sub [1, 2, 3] rfl) (hD.sub [1, 2, 3] (by decide +kernel) rfl) 0 rfl rfl) rfl rfl hl.1 rfl (lv_room (Nat.le_of_ble_eq_true rfl)) d_Coder_canWrite_2 ⟨by rw [hR]; exact Nat.le_of_ble_eq_true rfl, by rw [hR]; exact Nat.le_of_ble_eq_true rfl⟩) hP hD hS hA [1, 2, 3] [0] rfl rfl (by decide +kernel) (by decide +kernel) (fun r_2 u9 H locs hw_2 hP hD hS => ?_)
  have hr_2 : r_2 = ocf t := hw_2
  have hPD : my_PD (dC, dI) vwCl A [(co, Sum.inr (5, [Value.long xx, Value.long xreadX, Value.ref soa, Value.ref sna, Value.ref swa, Value.int xkept, Value.ref ri, Value.ref ro, Value.ref rw, Value.int xasked])), (oo, Sum.inr (7, [Value.int osg, Value.int osm, Value.int ofc, Value.ref oca, Value.ref opa])), (oca, Sum.inl (cI, n, Sum.inl ocf)), (opa, Sum.inl (cI, opl, Sum.inl opf))] H := ⟨hP, hD⟩
  have hP := hPD.1
  have hD := hPD.2
  refine lv_if_le (tgt := 12) hx hb d_Coder_canWrite_5 (by decide) (fun c_1 => ?_) (fun c_1 => ?_)
  · refine lv_iconst (v := 0) hx hb d_Coder_canWrite_12 (by decide) ?_
    exact my_iret (v := 0) hx hb hr (rfl) hlocks hQ hK hS (Nat.le_refl _) (Nat.le_refl _) () (by rw [hr_2, hf t ht] at c_1; rw [if_neg (fun q => absurd (nI_pos0 q hFb) (Int32.not_lt.mpr c_1))]) (hP.sub [0, 1, 2, 3] rfl) (hD.sub [0, 1, 2, 3] (by decide +kernel) rfl) d_Coder_canWrite_13
  · refine lv_iconst (v := 1) hx hb d_Coder_canWrite_8 (by decide) ?_
    refine lv_goto (tgt := 13) hx hb d_Coder_canWrite_9 (by decide) ?_
    exact my_iret (v := 1) hx hb hr (rfl) hlocks hQ hK hS (Nat.le_refl _) (Nat.le_refl _) () (by rw [hr_2, hf t ht] at c_1; rw [if_pos (by rcases Nat.eq_zero_or_pos (F t) with q | q; exact absurd (by rw [q]; exact Int32.le_refl _) c_1; exact q)]) (hP.sub [0, 1, 2, 3] rfl) (hD.sub [0, 1, 2, 3] (by decide +kernel) rfl) d_Coder_canWrite_13
set_option maxHeartbeats 2000000 in
set_option maxRecDepth 100000 in
theorem f_Bits_canWrite (l : Launch) (dC : Nat → ClassId) (dI : Nat → Nat → Nat) (cI cM cO : ClassId) (sz : Nat) (co : Nat) (xshift : Int32) (xkeptCode : Int64) (xkeptRange : Int64) (xkeptAsked : Int32) (xcache : Int32) (xpending : Int32) (xlow : Int64) (xrange : Int64) (xcode : Int64) (xreadLow : Int64) (xreadRange : Int64) (ri : Nat) (ro : Nat) (rw : Nat) (xasked : Int32) (oo : Nat) (osg : Int32) (ofc : Int32) (oca : Nat) (opa : Nat) (n : Nat) (ocf : Nat → Int32) (opl : Nat) (opf : Nat → Int32) (osm : Int32) (ii : Int32) : MetI l y_Bits_canWrite (Cond.code y_Bits_canWrite prog_2_method_4_code 3 (some .boolean) :: gw) ({ frames := 0, cells := 0, slots := 0, locals := 0 } : Room) (dC, dI) vwCl (kT cI cM cO) [Value.ref co, Value.ref oo, Value.int ii] [(co, Sum.inr (3, [Value.int xshift, Value.long xkeptCode, Value.long xkeptRange, Value.int xkeptAsked, Value.int xcache, Value.int xpending, Value.long xlow, Value.long xrange, Value.long xcode, Value.long xreadLow, Value.long xreadRange, Value.ref ri, Value.ref ro, Value.ref rw, Value.int xasked])), (oo, Sum.inr (7, [Value.int osg, Value.int osm, Value.int ofc, Value.ref oca, Value.ref opa])), (oca, Sum.inl (cI, n, Sum.inl ocf)), (opa, Sum.inl (cI, opl, Sum.inl opf))] sz (fun (r : Int32) (u : Unit) => r = 1) (fun (u : Unit) => [(co, Sum.inr (3, [Value.int xshift, Value.long xkeptCode, Value.long xkeptRange, Value.int xkeptAsked, Value.int xcache, Value.int xpending, Value.long xlow, Value.long xrange, Value.long xcode, Value.long xreadLow, Value.long xreadRange, Value.ref ri, Value.ref ro, Value.ref rw, Value.int xasked])), (oo, Sum.inr (7, [Value.int osg, Value.int osm, Value.int ofc, Value.ref oca, Value.ref opa])), (oca, Sum.inl (cI, n, Sum.inl ocf)), (opa, Sum.inl (cI, opl, Sum.inl opf))]) 0 0 := by
  refine my_ofI (cc := prog_2_method_4_code) (n := 3) (ret := (some .boolean)) (by decide) rfl (Nat.le_of_ble_eq_true rfl) ?_
  intro p e s m args below meth c R Q A ls H locs hx hb hr hts hown hlocks hml hnm hR hQ hA hl hP hK hN hD hS
  have hg : ∀ w ∈ gw, w.before args s = true := fun w h => hts w (List.mem_cons_of_mem _ h)
  have hown : s.vm.findClass "RangeCoders$Bits" = some m.cls := hown
  have hl : lv_has ls 3 [(0, Value.ref co), (1, Value.ref oo), (2, Value.int ii)] := hl
  refine lv_iconst (v := 1) hx hb d_Bits_canWrite_0 (by decide) ?_
  exact my_iret (v := 1) hx hb hr (rfl) hlocks hQ hK hS (Nat.le_refl _) (Nat.le_refl _) () (rfl) (hP.sub [0, 1, 2, 3] rfl) (hD.sub [0, 1, 2, 3] (by decide +kernel) rfl) d_Bits_canWrite_1
set_option maxHeartbeats 2000000 in
set_option maxRecDepth 100000 in
theorem f_Carries_Ropen (l : Launch) (dC : Nat → ClassId) (dI : Nat → Nat → Nat) (cI cM cO : ClassId) (sz : Nat) (co : Nat) (xcache : Int32) (xpending : Int32) (xlow : Int64) (xrange : Int64) (xcode : Int64) (xreadLow : Int64) (xreadRange : Int64) (ri : Nat) (ro : Nat) (rw : Nat) (xasked : Int32) (rwn : Int32) (rwa : Nat) (rwk : Nat) (rwf : Nat → Int32) (hrw : rOk rwn rwk) : MetV l y_Ranged_openMessage (Cond.code y_Ranged_openMessage prog_8_method_6_code 1 none :: gw) ({ frames := 1, cells := 0, slots := 0, locals := 20 } : Room) (dC, dI) vwCl (kT cI cM cO) [Value.ref co] [(co, Sum.inr (1, [Value.int xcache, Value.int xpending, Value.long xlow, Value.long xrange, Value.long xcode, Value.long xreadLow, Value.long xreadRange, Value.ref ri, Value.ref ro, Value.ref rw, Value.int xasked])), (rw, Sum.inr (0, [Value.int rwn, Value.ref rwa])), (rwa, Sum.inl (cI, rwk, Sum.inl rwf))] sz (fun (u : Unit) => rOk 0 rwk) (fun (u : Unit) => [(co, Sum.inr (1, [Value.int xcache, Value.int xpending, Value.long 0, Value.long 4294967295, Value.long xcode, Value.long xreadLow, Value.long xreadRange, Value.ref ri, Value.ref ro, Value.ref rw, Value.int xasked])), (rw, Sum.inr (0, [Value.int 0, Value.ref rwa])), (rwa, Sum.inl (cI, rwk, Sum.inl rwf))]) 0 0 := by
  refine my_ofV (cc := prog_8_method_6_code) (n := 1) (ret := none) (by decide) rfl (Nat.le_of_ble_eq_true rfl) ?_
  intro p e s m args below meth c R Q A ls H locs hx hb hr hts hown hlocks hml hnm hR hQ hA hl hP hK hN hD hS
  have hg : ∀ w ∈ gw, w.before args s = true := fun w h => hts w (List.mem_cons_of_mem _ h)
  have hown : s.vm.findClass "RangeCoders$Ranged" = some m.cls := hown
  have hl : lv_has ls 1 [(0, Value.ref co)] := hl
  refine lv_aload_n hx hb d_Ranged_openMessage_0 rfl (lv_at hl 0 rfl) ?_
  refine va_get (D := (dC, dI)) (ci := 1) (v := .ref rw) (C := "RangeCoders$Carries") (T := T_Carries) (N := 11) hx hb hg in_Carries hown hK hP 0 rfl rfl 9 (by decide) (hg _ k116) (fun x9 h9 => u_same (hg _ k117) x9 h9) rfl d_Ranged_openMessage_1 ?_
  refine my_cv (wr := [(co, Sum.inr (1, [Value.int xcache, Value.int xpending, Value.long xlow, Value.long xrange, Value.long xcode, Value.long xreadLow, Value.long xreadRange, Value.ref ri, Value.ref ro, Value.ref rw, Value.int xasked]))]) (va_runV (As := []) (rest := []) ⟨hx, hb, hml, hown, hts⟩ (c_Row_clear l dC dI cI cM cO H.size rw rwn rwa rwk rwf (by first | assumption | omega)) (cwV 0 hts (my_gV k692 k594 k595 k6 k596) rfl rfl rfl cu_Row_clear_0 ⟨by rw [hR]; exact Nat.le_of_ble_eq_true rfl, by rw [hR]; exact Nat.le_of_ble_eq_true rfl⟩) (my_preV hK hN (hP.sub [1, 2] rfl) (hD.sub [1, 2] (by decide +kernel) rfl) 0 rfl rfl) rfl rfl hl.1 rfl (lv_room (Nat.le_of_ble_eq_true rfl)) d_Ranged_openMessage_4 ⟨by rw [hR]; exact Nat.le_of_ble_eq_true rfl, by rw [hR]; exact Nat.le_of_ble_eq_true rfl⟩) hP hD hS hA [1, 2] [0] rfl rfl (by decide +kernel) (by decide +kernel) (fun u9 H locs hw_4 hP hD hS => ?_)
  have hr_4 : rOk 0 rwk := hw_4
  have hPD : my_PD (dC, dI) vwCl A [(co, Sum.inr (1, [Value.int xcache, Value.int xpending, Value.long xlow, Value.long xrange, Value.long xcode, Value.long xreadLow, Value.long xreadRange, Value.ref ri, Value.ref ro, Value.ref rw, Value.int xasked])), (rw, Sum.inr (0, [Value.int 0, Value.ref rwa])), (rwa, Sum.inl (cI, rwk, Sum.inl rwf))] H := ⟨hP, hD⟩
  have hP := hPD.1
  have hD := hPD.2
  refine lv_aload_n hx hb d_Ranged_openMessage_7 rfl (lv_at hl 0 rfl) ?_
  refine lv_lconst (v := 0) hx hb d_Ranged_openMessage_8 (by decide) ?_
  refine va_put (D := (dC, dI)) (ci := 1) (v := .long 0) (ty := .long) (C := "RangeCoders$Carries") (T := T_Carries) (N := 11) hx hb hg in_Carries t_Carries o_Carries n_Carries hown hK hP hD hS 0 rfl rfl 2 (by decide) (hg _ k74) (fun _ h9 => h9) rfl (o_Carries 2 (by decide)) rfl rfl (Nat.le_of_ble_eq_true rfl) d_Ranged_openMessage_9 (fun H locs hP hD hS => ?_)
  have hPD : my_PD (dC, dI) vwCl A [(co, Sum.inr (1, [Value.int xcache, Value.int xpending, Value.long 0, Value.long xrange, Value.long xcode, Value.long xreadLow, Value.long xreadRange, Value.ref ri, Value.ref ro, Value.ref rw, Value.int xasked])), (rw, Sum.inr (0, [Value.int 0, Value.ref rwa])), (rwa, Sum.inl (cI, rwk, Sum.inl rwf))] H := ⟨hP, hD⟩
  have hP := hPD.1
  have hD := hPD.2
  refine lv_aload_n hx hb d_Ranged_openMessage_12 rfl (lv_at hl 0 rfl) ?_
  refine lv_ldc2 (v := 4294967295) hx hb hown (hg _ k67) d_Ranged_openMessage_13 ?_
  refine va_put (D := (dC, dI)) (ci := 1) (v := .long 4294967295) (ty := .long) (C := "RangeCoders$Carries") (T := T_Carries) (N := 11) hx hb hg in_Carries t_Carries o_Carries n_Carries hown hK hP hD hS 0 rfl rfl 3 (by decide) (hg _ k77) (fun _ h9 => h9) rfl (o_Carries 3 (by decide)) rfl rfl (Nat.le_of_ble_eq_true rfl) d_Ranged_openMessage_16 (fun H locs hP hD hS => ?_)
  have hPD : my_PD (dC, dI) vwCl A [(co, Sum.inr (1, [Value.int xcache, Value.int xpending, Value.long 0, Value.long 4294967295, Value.long xcode, Value.long xreadLow, Value.long xreadRange, Value.ref ri, Value.ref ro, Value.ref rw, Value.int xasked])), (rw, Sum.inr (0, [Value.int 0, Value.ref rwa])), (rwa, Sum.inl (cI, rwk, Sum.inl rwf))] H := ⟨hP, hD⟩
  have hP := hPD.1
  have hD := hPD.2
  exact my_vret hx hb hr hlocks hQ hK hS (Nat.le_refl _) (Nat.le_refl _) () (hr_4) (hP.sub [0, 1, 2] rfl) (hD.sub [0, 1, 2] (by decide +kernel) rfl) d_Ranged_openMessage_19
set_option maxHeartbeats 2000000 in
set_option maxRecDepth 100000 in
theorem f_Carries_open (l : Launch) (dC : Nat → ClassId) (dI : Nat → Nat → Nat) (cI cM cO : ClassId) (sz : Nat) (co : Nat) (xcache : Int32) (xpending : Int32) (xlow : Int64) (xrange : Int64) (xcode : Int64) (xreadLow : Int64) (xreadRange : Int64) (ri : Nat) (ro : Nat) (rw : Nat) (xasked : Int32) (rwn : Int32) (rwa : Nat) (rwk : Nat) (rwf : Nat → Int32) (hrw : rOk rwn rwk) : MetV l y_Carries_openMessage (Cond.code y_Carries_openMessage prog_3_method_2_code 1 none :: gw) ({ frames := 2, cells := 0, slots := 0, locals := 40 } : Room) (dC, dI) vwCl (kT cI cM cO) [Value.ref co] [(co, Sum.inr (1, [Value.int xcache, Value.int xpending, Value.long xlow, Value.long xrange, Value.long xcode, Value.long xreadLow, Value.long xreadRange, Value.ref ri, Value.ref ro, Value.ref rw, Value.int xasked])), (rw, Sum.inr (0, [Value.int rwn, Value.ref rwa])), (rwa, Sum.inl (cI, rwk, Sum.inl rwf))] sz (fun (u : Unit) => rOk 0 rwk) (fun (u : Unit) => [(co, Sum.inr (1, [Value.int (-1), Value.int 0, Value.long 0, Value.long 4294967295, Value.long xcode, Value.long xreadLow, Value.long xreadRange, Value.ref ri, Value.ref ro, Value.ref rw, Value.int xasked])), (rw, Sum.inr (0, [Value.int 0, Value.ref rwa])), (rwa, Sum.inl (cI, rwk, Sum.inl rwf))]) 0 0 := by
  refine my_ofV (cc := prog_3_method_2_code) (n := 1) (ret := none) (by decide) rfl (Nat.le_of_ble_eq_true rfl) ?_
  intro p e s m args below meth c R Q A ls H locs hx hb hr hts hown hlocks hml hnm hR hQ hA hl hP hK hN hD hS
  have hg : ∀ w ∈ gw, w.before args s = true := fun w h => hts w (List.mem_cons_of_mem _ h)
  have hown : s.vm.findClass "RangeCoders$Carries" = some m.cls := hown
  have hl : lv_has ls 1 [(0, Value.ref co)] := hl
  refine lv_aload_n hx hb d_Carries_openMessage_0 rfl (lv_at hl 0 rfl) ?_
  refine my_cv (wr := []) (va_runSU (As := []) (rest := []) (hK.1 1 _ rfl).2 ⟨hx, hb, hml, hown, hts⟩ (f_Carries_Ropen l dC dI cI cM cO H.size co xcache xpending xlow xrange xcode xreadLow xreadRange ri ro rw xasked rwn rwa rwk rwf (by first | assumption | omega)) (va_cwSU 0 hts (my_gSU k689 k1288 k153 k690 k4 k691) rfl rfl rfl (by decide +kernel) ⟨by rw [hR]; exact Nat.le_of_ble_eq_true rfl, by rw [hR]; exact Nat.le_of_ble_eq_true rfl⟩) (my_preV hK hN (hP.sub [0, 1, 2] rfl) (hD.sub [0, 1, 2] (by decide +kernel) rfl) 0 rfl rfl) rfl rfl hl.1 rfl (lv_room (Nat.le_of_ble_eq_true rfl)) d_Carries_openMessage_1 ⟨by rw [hR]; exact Nat.le_of_ble_eq_true rfl, by rw [hR]; exact Nat.le_of_ble_eq_true rfl⟩) hP hD hS hA [0, 1, 2] [] rfl rfl (by decide +kernel) (by decide +kernel) (fun u9 H locs hw_1 hP hD hS => ?_)
  have hr_1 : rOk 0 rwk := hw_1
  have hPD : my_PD (dC, dI) vwCl A [(co, Sum.inr (1, [Value.int xcache, Value.int xpending, Value.long 0, Value.long 4294967295, Value.long xcode, Value.long xreadLow, Value.long xreadRange, Value.ref ri, Value.ref ro, Value.ref rw, Value.int xasked])), (rw, Sum.inr (0, [Value.int 0, Value.ref rwa])), (rwa, Sum.inl (cI, rwk, Sum.inl rwf))] H := ⟨hP, hD⟩
  have hP := hPD.1
  have hD := hPD.2
  refine lv_aload_n hx hb d_Carries_openMessage_4 rfl (lv_at hl 0 rfl) ?_
  refine lv_iconst (v := (-1)) hx hb d_Carries_openMessage_5 (by decide) ?_
  refine va_put (D := (dC, dI)) (ci := 1) (v := .int (-1)) (ty := .int) (C := "RangeCoders$Carries") (T := T_Carries) (N := 11) hx hb hg in_Carries t_Carries o_Carries n_Carries hown hK hP hD hS 0 rfl rfl 0 (by decide) (hg _ k68) (fun _ h9 => h9) rfl (o_Carries 0 (by decide)) rfl rfl (Nat.le_of_ble_eq_true rfl) d_Carries_openMessage_6 (fun H locs hP hD hS => ?_)
  have hPD : my_PD (dC, dI) vwCl A [(co, Sum.inr (1, [Value.int (-1), Value.int xpending, Value.long 0, Value.long 4294967295, Value.long xcode, Value.long xreadLow, Value.long xreadRange, Value.ref ri, Value.ref ro, Value.ref rw, Value.int xasked])), (rw, Sum.inr (0, [Value.int 0, Value.ref rwa])), (rwa, Sum.inl (cI, rwk, Sum.inl rwf))] H := ⟨hP, hD⟩
  have hP := hPD.1
  have hD := hPD.2
  refine lv_aload_n hx hb d_Carries_openMessage_9 rfl (lv_at hl 0 rfl) ?_
  refine lv_iconst (v := 0) hx hb d_Carries_openMessage_10 (by decide) ?_
  refine va_put (D := (dC, dI)) (ci := 1) (v := .int 0) (ty := .int) (C := "RangeCoders$Carries") (T := T_Carries) (N := 11) hx hb hg in_Carries t_Carries o_Carries n_Carries hown hK hP hD hS 0 rfl rfl 1 (by decide) (hg _ k69) (fun _ h9 => h9) rfl (o_Carries 1 (by decide)) rfl rfl (Nat.le_of_ble_eq_true rfl) d_Carries_openMessage_11 (fun H locs hP hD hS => ?_)
  have hPD : my_PD (dC, dI) vwCl A [(co, Sum.inr (1, [Value.int (-1), Value.int 0, Value.long 0, Value.long 4294967295, Value.long xcode, Value.long xreadLow, Value.long xreadRange, Value.ref ri, Value.ref ro, Value.ref rw, Value.int xasked])), (rw, Sum.inr (0, [Value.int 0, Value.ref rwa])), (rwa, Sum.inl (cI, rwk, Sum.inl rwf))] H := ⟨hP, hD⟩
  have hP := hPD.1
  have hD := hPD.2
  exact my_vret hx hb hr hlocks hQ hK hS (Nat.le_refl _) (Nat.le_refl _) () (hr_1) (hP.sub [0, 1, 2] rfl) (hD.sub [0, 1, 2] (by decide +kernel) rfl) d_Carries_openMessage_14
set_option maxHeartbeats 2000000 in
set_option maxRecDepth 100000 in
theorem f_NoCarries_Ropen (l : Launch) (dC : Nat → ClassId) (dI : Nat → Nat → Nat) (cI cM cO : ClassId) (sz : Nat) (co : Nat) (xlow : Int64) (xrange : Int64) (xcode : Int64) (xreadLow : Int64) (xreadRange : Int64) (ri : Nat) (ro : Nat) (rw : Nat) (xasked : Int32) (rwn : Int32) (rwa : Nat) (rwk : Nat) (rwf : Nat → Int32) (hrw : rOk rwn rwk) : MetV l y_Ranged_openMessage (Cond.code y_Ranged_openMessage prog_8_method_6_code 1 none :: gw) ({ frames := 1, cells := 0, slots := 0, locals := 20 } : Room) (dC, dI) vwCl (kT cI cM cO) [Value.ref co] [(co, Sum.inr (2, [Value.long xlow, Value.long xrange, Value.long xcode, Value.long xreadLow, Value.long xreadRange, Value.ref ri, Value.ref ro, Value.ref rw, Value.int xasked])), (rw, Sum.inr (0, [Value.int rwn, Value.ref rwa])), (rwa, Sum.inl (cI, rwk, Sum.inl rwf))] sz (fun (u : Unit) => rOk 0 rwk) (fun (u : Unit) => [(co, Sum.inr (2, [Value.long 0, Value.long 4294967295, Value.long xcode, Value.long xreadLow, Value.long xreadRange, Value.ref ri, Value.ref ro, Value.ref rw, Value.int xasked])), (rw, Sum.inr (0, [Value.int 0, Value.ref rwa])), (rwa, Sum.inl (cI, rwk, Sum.inl rwf))]) 0 0 := by
  refine my_ofV (cc := prog_8_method_6_code) (n := 1) (ret := none) (by decide) rfl (Nat.le_of_ble_eq_true rfl) ?_
  intro p e s m args below meth c R Q A ls H locs hx hb hr hts hown hlocks hml hnm hR hQ hA hl hP hK hN hD hS
  have hg : ∀ w ∈ gw, w.before args s = true := fun w h => hts w (List.mem_cons_of_mem _ h)
  have hown : s.vm.findClass "RangeCoders$Ranged" = some m.cls := hown
  have hl : lv_has ls 1 [(0, Value.ref co)] := hl
  refine lv_aload_n hx hb d_Ranged_openMessage_0 rfl (lv_at hl 0 rfl) ?_
  refine va_get (D := (dC, dI)) (ci := 2) (v := .ref rw) (C := "RangeCoders$NoCarries") (T := T_NoCarries) (N := 9) hx hb hg in_NoCarries hown hK hP 0 rfl rfl 7 (by decide) (hg _ k116) (fun x9 h9 => u_same (hg _ k117) x9 h9) rfl d_Ranged_openMessage_1 ?_
  refine my_cv (wr := [(co, Sum.inr (2, [Value.long xlow, Value.long xrange, Value.long xcode, Value.long xreadLow, Value.long xreadRange, Value.ref ri, Value.ref ro, Value.ref rw, Value.int xasked]))]) (va_runV (As := []) (rest := []) ⟨hx, hb, hml, hown, hts⟩ (c_Row_clear l dC dI cI cM cO H.size rw rwn rwa rwk rwf (by first | assumption | omega)) (cwV 0 hts (my_gV k692 k594 k595 k6 k596) rfl rfl rfl cu_Row_clear_0 ⟨by rw [hR]; exact Nat.le_of_ble_eq_true rfl, by rw [hR]; exact Nat.le_of_ble_eq_true rfl⟩) (my_preV hK hN (hP.sub [1, 2] rfl) (hD.sub [1, 2] (by decide +kernel) rfl) 0 rfl rfl) rfl rfl hl.1 rfl (lv_room (Nat.le_of_ble_eq_true rfl)) d_Ranged_openMessage_4 ⟨by rw [hR]; exact Nat.le_of_ble_eq_true rfl, by rw [hR]; exact Nat.le_of_ble_eq_true rfl⟩) hP hD hS hA [1, 2] [0] rfl rfl (by decide +kernel) (by decide +kernel) (fun u9 H locs hw_4 hP hD hS => ?_)
  have hr_4 : rOk 0 rwk := hw_4
  have hPD : my_PD (dC, dI) vwCl A [(co, Sum.inr (2, [Value.long xlow, Value.long xrange, Value.long xcode, Value.long xreadLow, Value.long xreadRange, Value.ref ri, Value.ref ro, Value.ref rw, Value.int xasked])), (rw, Sum.inr (0, [Value.int 0, Value.ref rwa])), (rwa, Sum.inl (cI, rwk, Sum.inl rwf))] H := ⟨hP, hD⟩
  have hP := hPD.1
  have hD := hPD.2
  refine lv_aload_n hx hb d_Ranged_openMessage_7 rfl (lv_at hl 0 rfl) ?_
  refine lv_lconst (v := 0) hx hb d_Ranged_openMessage_8 (by decide) ?_
  refine va_put (D := (dC, dI)) (ci := 2) (v := .long 0) (ty := .long) (C := "RangeCoders$NoCarries") (T := T_NoCarries) (N := 9) hx hb hg in_NoCarries t_NoCarries o_NoCarries n_NoCarries hown hK hP hD hS 0 rfl rfl 0 (by decide) (hg _ k74) (fun _ h9 => h9) rfl (o_NoCarries 0 (by decide)) rfl rfl (Nat.le_of_ble_eq_true rfl) d_Ranged_openMessage_9 (fun H locs hP hD hS => ?_)
  have hPD : my_PD (dC, dI) vwCl A [(co, Sum.inr (2, [Value.long 0, Value.long xrange, Value.long xcode, Value.long xreadLow, Value.long xreadRange, Value.ref ri, Value.ref ro, Value.ref rw, Value.int xasked])), (rw, Sum.inr (0, [Value.int 0, Value.ref rwa])), (rwa, Sum.inl (cI, rwk, Sum.inl rwf))] H := ⟨hP, hD⟩
  have hP := hPD.1
  have hD := hPD.2
  refine lv_aload_n hx hb d_Ranged_openMessage_12 rfl (lv_at hl 0 rfl) ?_
  refine lv_ldc2 (v := 4294967295) hx hb hown (hg _ k67) d_Ranged_openMessage_13 ?_
  refine va_put (D := (dC, dI)) (ci := 2) (v := .long 4294967295) (ty := .long) (C := "RangeCoders$NoCarries") (T := T_NoCarries) (N := 9) hx hb hg in_NoCarries t_NoCarries o_NoCarries n_NoCarries hown hK hP hD hS 0 rfl rfl 1 (by decide) (hg _ k77) (fun _ h9 => h9) rfl (o_NoCarries 1 (by decide)) rfl rfl (Nat.le_of_ble_eq_true rfl) d_Ranged_openMessage_16 (fun H locs hP hD hS => ?_)
  have hPD : my_PD (dC, dI) vwCl A [(co, Sum.inr (2, [Value.long 0, Value.long 4294967295, Value.long xcode, Value.long xreadLow, Value.long xreadRange, Value.ref ri, Value.ref ro, Value.ref rw, Value.int xasked])), (rw, Sum.inr (0, [Value.int 0, Value.ref rwa])), (rwa, Sum.inl (cI, rwk, Sum.inl rwf))] H := ⟨hP, hD⟩
  have hP := hPD.1
  have hD := hPD.2
  exact my_vret hx hb hr hlocks hQ hK hS (Nat.le_refl _) (Nat.le_refl _) () (hr_4) (hP.sub [0, 1, 2] rfl) (hD.sub [0, 1, 2] (by decide +kernel) rfl) d_Ranged_openMessage_19
set_option maxHeartbeats 2000000 in
set_option maxRecDepth 100000 in
theorem f_Bits_Ropen (l : Launch) (dC : Nat → ClassId) (dI : Nat → Nat → Nat) (cI cM cO : ClassId) (sz : Nat) (co : Nat) (xshift : Int32) (xkeptCode : Int64) (xkeptRange : Int64) (xkeptAsked : Int32) (xcache : Int32) (xpending : Int32) (xlow : Int64) (xrange : Int64) (xcode : Int64) (xreadLow : Int64) (xreadRange : Int64) (ri : Nat) (ro : Nat) (rw : Nat) (xasked : Int32) (rwn : Int32) (rwa : Nat) (rwk : Nat) (rwf : Nat → Int32) (hrw : rOk rwn rwk) : MetV l y_Ranged_openMessage (Cond.code y_Ranged_openMessage prog_8_method_6_code 1 none :: gw) ({ frames := 1, cells := 0, slots := 0, locals := 20 } : Room) (dC, dI) vwCl (kT cI cM cO) [Value.ref co] [(co, Sum.inr (3, [Value.int xshift, Value.long xkeptCode, Value.long xkeptRange, Value.int xkeptAsked, Value.int xcache, Value.int xpending, Value.long xlow, Value.long xrange, Value.long xcode, Value.long xreadLow, Value.long xreadRange, Value.ref ri, Value.ref ro, Value.ref rw, Value.int xasked])), (rw, Sum.inr (0, [Value.int rwn, Value.ref rwa])), (rwa, Sum.inl (cI, rwk, Sum.inl rwf))] sz (fun (u : Unit) => rOk 0 rwk) (fun (u : Unit) => [(co, Sum.inr (3, [Value.int xshift, Value.long xkeptCode, Value.long xkeptRange, Value.int xkeptAsked, Value.int xcache, Value.int xpending, Value.long 0, Value.long 4294967295, Value.long xcode, Value.long xreadLow, Value.long xreadRange, Value.ref ri, Value.ref ro, Value.ref rw, Value.int xasked])), (rw, Sum.inr (0, [Value.int 0, Value.ref rwa])), (rwa, Sum.inl (cI, rwk, Sum.inl rwf))]) 0 0 := by
  refine my_ofV (cc := prog_8_method_6_code) (n := 1) (ret := none) (by decide) rfl (Nat.le_of_ble_eq_true rfl) ?_
  intro p e s m args below meth c R Q A ls H locs hx hb hr hts hown hlocks hml hnm hR hQ hA hl hP hK hN hD hS
  have hg : ∀ w ∈ gw, w.before args s = true := fun w h => hts w (List.mem_cons_of_mem _ h)
  have hown : s.vm.findClass "RangeCoders$Ranged" = some m.cls := hown
  have hl : lv_has ls 1 [(0, Value.ref co)] := hl
  refine lv_aload_n hx hb d_Ranged_openMessage_0 rfl (lv_at hl 0 rfl) ?_
  refine va_get (D := (dC, dI)) (ci := 3) (v := .ref rw) (C := "RangeCoders$Bits") (T := T_Bits) (N := 15) hx hb hg in_Bits hown hK hP 0 rfl rfl 13 (by decide) (hg _ k116) (fun x9 h9 => u_same (hg _ k117) x9 h9) rfl d_Ranged_openMessage_1 ?_
  refine my_cv (wr := [(co, Sum.inr (3, [Value.int xshift, Value.long xkeptCode, Value.long xkeptRange, Value.int xkeptAsked, Value.int xcache, Value.int xpending, Value.long xlow, Value.long xrange, Value.long xcode, Value.long xreadLow, Value.long xreadRange, Value.ref ri, Value.ref ro, Value.ref rw, Value.int xasked]))]) (va_runV (As := []) (rest := []) ⟨hx, hb, hml, hown, hts⟩ (c_Row_clear l dC dI cI cM cO H.size rw rwn rwa rwk rwf (by first | assumption | omega)) (cwV 0 hts (my_gV k692 k594 k595 k6 k596) rfl rfl rfl cu_Row_clear_0 ⟨by rw [hR]; exact Nat.le_of_ble_eq_true rfl, by rw [hR]; exact Nat.le_of_ble_eq_true rfl⟩) (my_preV hK hN (hP.sub [1, 2] rfl) (hD.sub [1, 2] (by decide +kernel) rfl) 0 rfl rfl) rfl rfl hl.1 rfl (lv_room (Nat.le_of_ble_eq_true rfl)) d_Ranged_openMessage_4 ⟨by rw [hR]; exact Nat.le_of_ble_eq_true rfl, by rw [hR]; exact Nat.le_of_ble_eq_true rfl⟩) hP hD hS hA [1, 2] [0] rfl rfl (by decide +kernel) (by decide +kernel) (fun u9 H locs hw_4 hP hD hS => ?_)
  have hr_4 : rOk 0 rwk := hw_4
  have hPD : my_PD (dC, dI) vwCl A [(co, Sum.inr (3, [Value.int xshift, Value.long xkeptCode, Value.long xkeptRange, Value.int xkeptAsked, Value.int xcache, Value.int xpending, Value.long xlow, Value.long xrange, Value.long xcode, Value.long xreadLow, Value.long xreadRange, Value.ref ri, Value.ref ro, Value.ref rw, Value.int xasked])), (rw, Sum.inr (0, [Value.int 0, Value.ref rwa])), (rwa, Sum.inl (cI, rwk, Sum.inl rwf))] H := ⟨hP, hD⟩
  have hP := hPD.1
  have hD := hPD.2
  refine lv_aload_n hx hb d_Ranged_openMessage_7 rfl (lv_at hl 0 rfl) ?_
  refine lv_lconst (v := 0) hx hb d_Ranged_openMessage_8 (by decide) ?_
  refine va_put (D := (dC, dI)) (ci := 3) (v := .long 0) (ty := .long) (C := "RangeCoders$Bits") (T := T_Bits) (N := 15) hx hb hg in_Bits t_Bits o_Bits n_Bits hown hK hP hD hS 0 rfl rfl 6 (by decide) (hg _ k74) (fun _ h9 => h9) rfl (o_Bits 6 (by decide)) rfl rfl (Nat.le_of_ble_eq_true rfl) d_Ranged_openMessage_9 (fun H locs hP hD hS => ?_)
  have hPD : my_PD (dC, dI) vwCl A [(co, Sum.inr (3, [Value.int xshift, Value.long xkeptCode, Value.long xkeptRange, Value.int xkeptAsked, Value.int xcache, Value.int xpending, Value.long 0, Value.long xrange, Value.long xcode, Value.long xreadLow, Value.long xreadRange, Value.ref ri, Value.ref ro, Value.ref rw, Value.int xasked])), (rw, Sum.inr (0, [Value.int 0, Value.ref rwa])), (rwa, Sum.inl (cI, rwk, Sum.inl rwf))] H := ⟨hP, hD⟩
  have hP := hPD.1
  have hD := hPD.2
  refine lv_aload_n hx hb d_Ranged_openMessage_12 rfl (lv_at hl 0 rfl) ?_
  refine lv_ldc2 (v := 4294967295) hx hb hown (hg _ k67) d_Ranged_openMessage_13 ?_
  refine va_put (D := (dC, dI)) (ci := 3) (v := .long 4294967295) (ty := .long) (C := "RangeCoders$Bits") (T := T_Bits) (N := 15) hx hb hg in_Bits t_Bits o_Bits n_Bits hown hK hP hD hS 0 rfl rfl 7 (by decide) (hg _ k77) (fun _ h9 => h9) rfl (o_Bits 7 (by decide)) rfl rfl (Nat.le_of_ble_eq_true rfl) d_Ranged_openMessage_16 (fun H locs hP hD hS => ?_)
  have hPD : my_PD (dC, dI) vwCl A [(co, Sum.inr (3, [Value.int xshift, Value.long xkeptCode, Value.long xkeptRange, Value.int xkeptAsked, Value.int xcache, Value.int xpending, Value.long 0, Value.long 4294967295, Value.long xcode, Value.long xreadLow, Value.long xreadRange, Value.ref ri, Value.ref ro, Value.ref rw, Value.int xasked])), (rw, Sum.inr (0, [Value.int 0, Value.ref rwa])), (rwa, Sum.inl (cI, rwk, Sum.inl rwf))] H := ⟨hP, hD⟩
  have hP := hPD.1
  have hD := hPD.2
  exact my_vret hx hb hr hlocks hQ hK hS (Nat.le_refl _) (Nat.le_refl _) () (hr_4) (hP.sub [0, 1, 2] rfl) (hD.sub [0, 1, 2] (by decide +kernel) rfl) d_Ranged_openMessage_19
set_option maxHeartbeats 2000000 in
set_option maxRecDepth 100000 in
theorem f_Bits_open (l : Launch) (dC : Nat → ClassId) (dI : Nat → Nat → Nat) (cI cM cO : ClassId) (sz : Nat) (co : Nat) (xshift : Int32) (xkeptCode : Int64) (xkeptRange : Int64) (xkeptAsked : Int32) (xcache : Int32) (xpending : Int32) (xlow : Int64) (xrange : Int64) (xcode : Int64) (xreadLow : Int64) (xreadRange : Int64) (ri : Nat) (ro : Nat) (rw : Nat) (xasked : Int32) (rwn : Int32) (rwa : Nat) (rwk : Nat) (rwf : Nat → Int32) (hrw : rOk rwn rwk) : MetV l y_Carries_openMessage (Cond.code y_Carries_openMessage prog_3_method_2_code 1 none :: gw) ({ frames := 2, cells := 0, slots := 0, locals := 40 } : Room) (dC, dI) vwCl (kT cI cM cO) [Value.ref co] [(co, Sum.inr (3, [Value.int xshift, Value.long xkeptCode, Value.long xkeptRange, Value.int xkeptAsked, Value.int xcache, Value.int xpending, Value.long xlow, Value.long xrange, Value.long xcode, Value.long xreadLow, Value.long xreadRange, Value.ref ri, Value.ref ro, Value.ref rw, Value.int xasked])), (rw, Sum.inr (0, [Value.int rwn, Value.ref rwa])), (rwa, Sum.inl (cI, rwk, Sum.inl rwf))] sz (fun (u : Unit) => rOk 0 rwk) (fun (u : Unit) => [(co, Sum.inr (3, [Value.int xshift, Value.long xkeptCode, Value.long xkeptRange, Value.int xkeptAsked, Value.int (-1), Value.int 0, Value.long 0, Value.long 4294967295, Value.long xcode, Value.long xreadLow, Value.long xreadRange, Value.ref ri, Value.ref ro, Value.ref rw, Value.int xasked])), (rw, Sum.inr (0, [Value.int 0, Value.ref rwa])), (rwa, Sum.inl (cI, rwk, Sum.inl rwf))]) 0 0 := by
  refine my_ofV (cc := prog_3_method_2_code) (n := 1) (ret := none) (by decide) rfl (Nat.le_of_ble_eq_true rfl) ?_
  intro p e s m args below meth c R Q A ls H locs hx hb hr hts hown hlocks hml hnm hR hQ hA hl hP hK hN hD hS
  have hg : ∀ w ∈ gw, w.before args s = true := fun w h => hts w (List.mem_cons_of_mem _ h)
  have hown : s.vm.findClass "RangeCoders$Carries" = some m.cls := hown
  have hl : lv_has ls 1 [(0, Value.ref co)] := hl
  refine lv_aload_n hx hb d_Carries_openMessage_0 rfl (lv_at hl 0 rfl) ?_
  refine my_cv (wr := []) (va_runSU (As := []) (rest := []) (hK.1 3 _ rfl).2 ⟨hx, hb, hml, hown, hts⟩ (f_Bits_Ropen l dC dI cI cM cO H.size co xshift xkeptCode xkeptRange xkeptAsked xcache xpending xlow xrange xcode xreadLow xreadRange ri ro rw xasked rwn rwa rwk rwf (by first | assumption | omega)) (va_cwSU 0 hts (my_gSU k689 k1288 k153 k690 k4 k691) rfl rfl rfl (by decide +kernel) ⟨by rw [hR]; exact Nat.le_of_ble_eq_true rfl, by rw [hR]; exact Nat.le_of_ble_eq_true rfl⟩) (my_preV hK hN (hP.sub [0, 1, 2] rfl) (hD.sub [0, 1, 2] (by decide +kernel) rfl) 0 rfl rfl) rfl rfl hl.1 rfl (lv_room (Nat.le_of_ble_eq_true rfl)) d_Carries_openMessage_1 ⟨by rw [hR]; exact Nat.le_of_ble_eq_true rfl, by rw [hR]; exact Nat.le_of_ble_eq_true rfl⟩) hP hD hS hA [0, 1, 2] [] rfl rfl (by decide +kernel) (by decide +kernel) (fun u9 H locs hw_1 hP hD hS => ?_)
  have hr_1 : rOk 0 rwk := hw_1
  have hPD : my_PD (dC, dI) vwCl A [(co, Sum.inr (3, [Value.int xshift, Value.long xkeptCode, Value.long xkeptRange, Value.int xkeptAsked, Value.int xcache, Value.int xpending, Value.long 0, Value.long 4294967295, Value.long xcode, Value.long xreadLow, Value.long xreadRange, Value.ref ri, Value.ref ro, Value.ref rw, Value.int xasked])), (rw, Sum.inr (0, [Value.int 0, Value.ref rwa])), (rwa, Sum.inl (cI, rwk, Sum.inl rwf))] H := ⟨hP, hD⟩
  have hP := hPD.1
  have hD := hPD.2
  refine lv_aload_n hx hb d_Carries_openMessage_4 rfl (lv_at hl 0 rfl) ?_
  refine lv_iconst (v := (-1)) hx hb d_Carries_openMessage_5 (by decide) ?_
  refine va_put (D := (dC, dI)) (ci := 3) (v := .int (-1)) (ty := .int) (C := "RangeCoders$Bits") (T := T_Bits) (N := 15) hx hb hg in_Bits t_Bits o_Bits n_Bits hown hK hP hD hS 0 rfl rfl 4 (by decide) (hg _ k68) (fun _ h9 => h9) rfl (o_Bits 4 (by decide)) rfl rfl (Nat.le_of_ble_eq_true rfl) d_Carries_openMessage_6 (fun H locs hP hD hS => ?_)
  have hPD : my_PD (dC, dI) vwCl A [(co, Sum.inr (3, [Value.int xshift, Value.long xkeptCode, Value.long xkeptRange, Value.int xkeptAsked, Value.int (-1), Value.int xpending, Value.long 0, Value.long 4294967295, Value.long xcode, Value.long xreadLow, Value.long xreadRange, Value.ref ri, Value.ref ro, Value.ref rw, Value.int xasked])), (rw, Sum.inr (0, [Value.int 0, Value.ref rwa])), (rwa, Sum.inl (cI, rwk, Sum.inl rwf))] H := ⟨hP, hD⟩
  have hP := hPD.1
  have hD := hPD.2
  refine lv_aload_n hx hb d_Carries_openMessage_9 rfl (lv_at hl 0 rfl) ?_
  refine lv_iconst (v := 0) hx hb d_Carries_openMessage_10 (by decide) ?_
  refine va_put (D := (dC, dI)) (ci := 3) (v := .int 0) (ty := .int) (C := "RangeCoders$Bits") (T := T_Bits) (N := 15) hx hb hg in_Bits t_Bits o_Bits n_Bits hown hK hP hD hS 0 rfl rfl 5 (by decide) (hg _ k69) (fun _ h9 => h9) rfl (o_Bits 5 (by decide)) rfl rfl (Nat.le_of_ble_eq_true rfl) d_Carries_openMessage_11 (fun H locs hP hD hS => ?_)
  have hPD : my_PD (dC, dI) vwCl A [(co, Sum.inr (3, [Value.int xshift, Value.long xkeptCode, Value.long xkeptRange, Value.int xkeptAsked, Value.int (-1), Value.int 0, Value.long 0, Value.long 4294967295, Value.long xcode, Value.long xreadLow, Value.long xreadRange, Value.ref ri, Value.ref ro, Value.ref rw, Value.int xasked])), (rw, Sum.inr (0, [Value.int 0, Value.ref rwa])), (rwa, Sum.inl (cI, rwk, Sum.inl rwf))] H := ⟨hP, hD⟩
  have hP := hPD.1
  have hD := hPD.2
  exact my_vret hx hb hr hlocks hQ hK hS (Nat.le_refl _) (Nat.le_refl _) () (hr_1) (hP.sub [0, 1, 2] rfl) (hD.sub [0, 1, 2] (by decide +kernel) rfl) d_Carries_openMessage_14
set_option maxHeartbeats 2000000 in
set_option maxRecDepth 100000 in
theorem f_Carries_close (l : Launch) (dC : Nat → ClassId) (dI : Nat → Nat → Nat) (cI cM cO : ClassId) (sz : Nat) (sl : Nat) (co : Nat) (xcode : Int64) (xreadLow : Int64) (xreadRange : Int64) (ri : Nat) (ro : Nat) (rw : Nat) (xasked : Int32) (Rg : Nat) (L : Nat) (ca : Option Nat) (Pn : Nat) (rwa : Nat) (rwk : Nat) (rwf : Nat → Int32) (bs : List Nat) (ron : Int32) (roa : Nat) (rok : Nat) (rof : Nat → Int32) (hE : eOk (Rg, L, ca, Pn, bs)) (hrw : rOk (nI bs.length) rwk) (hGrw : gIs rwf bs) (hN9 : bs.length + 20 + Pn ≤ 7900) : MetVg l y_Ranged_closeMessage (Cond.code y_Ranged_closeMessage prog_8_method_9_code 2 none :: gw) ({ frames := 6, cells := rPh rwk, slots := rPh rwk, locals := 146 } : Room) (dC, dI) vwCl (kT cI cM cO) [Value.ref co] [(co, Sum.inr (1, [Value.int (caI ca), Value.int (nI Pn), Value.long (lN L), Value.long (lN Rg), Value.long xcode, Value.long xreadLow, Value.long xreadRange, Value.ref ri, Value.ref ro, Value.ref rw, Value.int xasked])), (rw, Sum.inr (0, [Value.int (nI bs.length), Value.ref rwa])), (rwa, Sum.inl (cI, rwk, Sum.inl rwf)), (ro, Sum.inr (0, [Value.int ron, Value.ref roa])), (roa, Sum.inl (cI, rok, Sum.inl rof))] sz sl (fun (u : Nat × Nat × (Nat → Int32)) => rOk (nI ((eB (shK 5 (Rg, L, ca, Pn, bs)))).length) u.2.1 ∧ gIs u.2.2 ((eB (shK 5 (Rg, L, ca, Pn, bs))))) (fun (u : Nat × Nat × (Nat → Int32)) => [(co, Sum.inr (1, [Value.int (caI (eC (shK 5 (Rg, L, ca, Pn, bs)))), Value.int (nI (eP (shK 5 (Rg, L, ca, Pn, bs)))), Value.long (lN (eL (shK 5 (Rg, L, ca, Pn, bs)))), Value.long (lN (eR (shK 5 (Rg, L, ca, Pn, bs)))), Value.long xcode, Value.long xreadLow, Value.long xreadRange, Value.ref ri, Value.ref rw, Value.ref ro, Value.int xasked])), (rw, Sum.inr (0, [Value.int (nI (eB (shK 5 (Rg, L, ca, Pn, bs))).length), Value.ref u.1])), (u.1, Sum.inl (cI, u.2.1, Sum.inl u.2.2)), (ro, Sum.inr (0, [Value.int ron, Value.ref roa])), (roa, Sum.inl (cI, rok, Sum.inl rof))]) (rPh rwk) (fun (u : Nat × Nat × (Nat → Int32)) => rPh u.2.1) := by
  refine my_ofVg (cc := prog_8_method_9_code) (n := 2) (ret := none) (by decide) rfl (Nat.le_of_ble_eq_true rfl) ?_
  intro p e s m args below meth c R Q A ls H locs hx hb hr hts hown hlocks hml hnm hR hQ hA hl hP hK hN hD hS
  have hg : ∀ w ∈ gw, w.before args s = true := fun w h => hts w (List.mem_cons_of_mem _ h)
  have hown : s.vm.findClass "RangeCoders$Ranged" = some m.cls := hown
  have hl : lv_has ls 2 [(0, Value.ref co)] := hl
  refine lv_aload_n hx hb d_Ranged_closeMessage_0 rfl (lv_at hl 0 rfl) ?_
  refine my_cvg (wr := [(ro, Sum.inr (0, [Value.int ron, Value.ref roa])), (roa, Sum.inl (cI, rok, Sum.inl rof))]) (va_runU (As := []) (rest := []) ⟨hx, hb, hml, hown, hts⟩ (f_Carries_flush l dC dI cI cM cO H.size (hSl H) co xcode xreadLow xreadRange ri ro rw xasked Rg L ca Pn rwa rwk rwf bs (by first | assumption | omega) (by first | assumption | omega) (by first | assumption | omega) (by omega)) (va_cwA 0 hts (my_gU k578 k580 k584 k582 k5 k583) rfl rfl rfl (hN.1 _ j579 rfl) (by decide +kernel) ⟨by rw [hR]; exact Nat.le_of_ble_eq_true rfl, by rw [hR]; exact Nat.le_of_ble_eq_true rfl⟩) (my_preVg hK hN (hP.sub [0, 1, 2] rfl) (hD.sub [0, 1, 2] (by decide +kernel) rfl) 0 rfl rfl) rfl rfl hl.1 rfl (lv_room (Nat.le_of_ble_eq_true rfl)) d_Ranged_closeMessage_1 ⟨by rw [hR]; exact (show 0 + (rPh rwk) ≤ (rPh rwk) by omega), by rw [hR]; exact (show 0 + (rPh rwk) ≤ (rPh rwk) by omega)⟩) hP hD hS hA [0, 1, 2] [3, 4] rfl rfl (by decide +kernel) (by decide +kernel) (fun u9 d_1 H locs hd_1 hw_1 hP hD hS => ?_)
  obtain ⟨rwaq_1, rwkq_1, rwfq_1⟩ := u9
  obtain ⟨hrw_1, hGrw_1⟩ : rOk (nI (eB (shK 5 (Rg, L, ca, Pn, bs))).length) rwkq_1 ∧ gIs rwfq_1 (eB (shK 5 (Rg, L, ca, Pn, bs))) := hw_1
  have hd_1 : d_1 + (rPh rwkq_1) ≤ (rPh rwk) := hd_1
  have hPD : my_PD (dC, dI) vwCl A [(ro, Sum.inr (0, [Value.int ron, Value.ref roa])), (roa, Sum.inl (cI, rok, Sum.inl rof)), (co, Sum.inr (1, [Value.int (caI (eC (shK 5 (Rg, L, ca, Pn, bs)))), Value.int (nI (eP (shK 5 (Rg, L, ca, Pn, bs)))), Value.long (lN (eL (shK 5 (Rg, L, ca, Pn, bs)))), Value.long (lN (eR (shK 5 (Rg, L, ca, Pn, bs)))), Value.long xcode, Value.long xreadLow, Value.long xreadRange, Value.ref ri, Value.ref ro, Value.ref rw, Value.int xasked])), (rw, Sum.inr (0, [Value.int (nI (eB (shK 5 (Rg, L, ca, Pn, bs))).length), Value.ref rwaq_1])), (rwaq_1, Sum.inl (cI, rwkq_1, Sum.inl rwfq_1))] H := ⟨hP, hD⟩
  have hP := hPD.1
  have hD := hPD.2
  refine lv_aload_n hx hb d_Ranged_closeMessage_4 rfl (lv_at hl 0 rfl) ?_
  refine va_get (D := (dC, dI)) (ci := 1) (v := .ref ro) (C := "RangeCoders$Carries") (T := T_Carries) (N := 11) hx hb hg in_Carries hown hK hP 2 rfl rfl 8 (by decide) (hg _ k109) (fun x9 h9 => u_same (hg _ k110) x9 h9) rfl d_Ranged_closeMessage_5 ?_
  refine lv_astore_n (lv' := [(1, Value.ref ro), (0, Value.ref co)]) hx hb d_Ranged_closeMessage_8 rfl hl (by decide) rfl (fun ls hl => ?_)
  refine lv_aload_n hx hb d_Ranged_closeMessage_9 rfl (lv_at hl 1 rfl) ?_
  refine lv_aload_n hx hb d_Ranged_closeMessage_10 rfl (lv_at hl 1 rfl) ?_
  refine va_get (D := (dC, dI)) (ci := 1) (v := .ref rw) (C := "RangeCoders$Carries") (T := T_Carries) (N := 11) hx hb hg in_Carries hown hK hP 2 rfl rfl 9 (by decide) (hg _ k116) (fun x9 h9 => u_same (hg _ k117) x9 h9) rfl d_Ranged_closeMessage_11 ?_
  refine va_put (D := (dC, dI)) (ci := 1) (v := .ref rw) (ty := (.object "RangeCoders$Row")) (C := "RangeCoders$Carries") (T := T_Carries) (N := 11) hx hb hg in_Carries t_Carries o_Carries n_Carries hown hK hP hD hS 2 rfl rfl 8 (by decide) (hg _ k109) (fun x9 h9 => u_same (hg _ k110) x9 h9) rfl (o_Carries 8 (by decide)) rfl rfl (Nat.le_of_ble_eq_true rfl) d_Ranged_closeMessage_14 (fun H locs hP hD hS => ?_)
  have hPD : my_PD (dC, dI) vwCl A [(ro, Sum.inr (0, [Value.int ron, Value.ref roa])), (roa, Sum.inl (cI, rok, Sum.inl rof)), (co, Sum.inr (1, [Value.int (caI (eC (shK 5 (Rg, L, ca, Pn, bs)))), Value.int (nI (eP (shK 5 (Rg, L, ca, Pn, bs)))), Value.long (lN (eL (shK 5 (Rg, L, ca, Pn, bs)))), Value.long (lN (eR (shK 5 (Rg, L, ca, Pn, bs)))), Value.long xcode, Value.long xreadLow, Value.long xreadRange, Value.ref ri, Value.ref rw, Value.ref rw, Value.int xasked])), (rw, Sum.inr (0, [Value.int (nI (eB (shK 5 (Rg, L, ca, Pn, bs))).length), Value.ref rwaq_1])), (rwaq_1, Sum.inl (cI, rwkq_1, Sum.inl rwfq_1))] H := ⟨hP, hD⟩
  have hP := hPD.1
  have hD := hPD.2
  refine lv_aload_n hx hb d_Ranged_closeMessage_17 rfl (lv_at hl 1 rfl) ?_
  refine lv_aload_n hx hb d_Ranged_closeMessage_18 rfl (lv_at hl 0 rfl) ?_
  refine va_put (D := (dC, dI)) (ci := 1) (v := .ref ro) (ty := (.object "RangeCoders$Row")) (C := "RangeCoders$Carries") (T := T_Carries) (N := 11) hx hb hg in_Carries t_Carries o_Carries n_Carries hown hK hP hD hS 2 rfl rfl 9 (by decide) (hg _ k116) (fun x9 h9 => u_same (hg _ k117) x9 h9) rfl (o_Carries 9 (by decide)) rfl rfl (Nat.le_of_ble_eq_true rfl) d_Ranged_closeMessage_19 (fun H locs hP hD hS => ?_)
  have hPD : my_PD (dC, dI) vwCl A [(ro, Sum.inr (0, [Value.int ron, Value.ref roa])), (roa, Sum.inl (cI, rok, Sum.inl rof)), (co, Sum.inr (1, [Value.int (caI (eC (shK 5 (Rg, L, ca, Pn, bs)))), Value.int (nI (eP (shK 5 (Rg, L, ca, Pn, bs)))), Value.long (lN (eL (shK 5 (Rg, L, ca, Pn, bs)))), Value.long (lN (eR (shK 5 (Rg, L, ca, Pn, bs)))), Value.long xcode, Value.long xreadLow, Value.long xreadRange, Value.ref ri, Value.ref rw, Value.ref ro, Value.int xasked])), (rw, Sum.inr (0, [Value.int (nI (eB (shK 5 (Rg, L, ca, Pn, bs))).length), Value.ref rwaq_1])), (rwaq_1, Sum.inl (cI, rwkq_1, Sum.inl rwfq_1))] H := ⟨hP, hD⟩
  have hP := hPD.1
  have hD := hPD.2
  exact my_vretg hx hb hr hlocks hQ hK hS (rwaq_1, rwkq_1, rwfq_1) (show (0 + d_1) + (rPh rwkq_1) ≤ (rPh rwk) by omega) (show (0 + d_1) + (rPh rwkq_1) ≤ (rPh rwk) by omega) (⟨hrw_1, hGrw_1⟩) (hP.sub [2, 3, 4, 0, 1] rfl) (hD.sub [2, 3, 4, 0, 1] (by decide +kernel) rfl) d_Ranged_closeMessage_22
set_option maxHeartbeats 2000000 in
set_option maxRecDepth 100000 in
theorem f_NoCarries_close (l : Launch) (dC : Nat → ClassId) (dI : Nat → Nat → Nat) (cI cM cO : ClassId) (sz : Nat) (sl : Nat) (co : Nat) (xrange : Int64) (xcode : Int64) (xreadLow : Int64) (xreadRange : Int64) (ri : Nat) (ro : Nat) (rw : Nat) (xasked : Int32) (L : Nat) (rwa : Nat) (rwk : Nat) (rwf : Nat → Int32) (bs : List Nat) (ron : Int32) (roa : Nat) (rok : Nat) (rof : Nat → Int32) (hL : L < 4294967296) (hrw : rOk (nI bs.length) rwk) (hGrw : gIs rwf bs) (hN9 : bs.length + 20 + 0 ≤ 7900) : MetVg l y_Ranged_closeMessage (Cond.code y_Ranged_closeMessage prog_8_method_9_code 2 none :: gw) ({ frames := 5, cells := rPh rwk, slots := rPh rwk, locals := 124 } : Room) (dC, dI) vwCl (kT cI cM cO) [Value.ref co] [(co, Sum.inr (2, [Value.long (lN L), Value.long xrange, Value.long xcode, Value.long xreadLow, Value.long xreadRange, Value.ref ri, Value.ref ro, Value.ref rw, Value.int xasked])), (rw, Sum.inr (0, [Value.int (nI bs.length), Value.ref rwa])), (rwa, Sum.inl (cI, rwk, Sum.inl rwf)), (ro, Sum.inr (0, [Value.int ron, Value.ref roa])), (roa, Sum.inl (cI, rok, Sum.inl rof))] sz sl (fun (u : Nat × Nat × (Nat → Int32)) => rOk (nI ((tpK 4 (L, bs)).2).length) u.2.1 ∧ gIs u.2.2 ((tpK 4 (L, bs)).2)) (fun (u : Nat × Nat × (Nat → Int32)) => [(co, Sum.inr (2, [Value.long (lN (tpK 4 (L, bs)).1), Value.long xrange, Value.long xcode, Value.long xreadLow, Value.long xreadRange, Value.ref ri, Value.ref rw, Value.ref ro, Value.int xasked])), (rw, Sum.inr (0, [Value.int (nI (tpK 4 (L, bs)).2.length), Value.ref u.1])), (u.1, Sum.inl (cI, u.2.1, Sum.inl u.2.2)), (ro, Sum.inr (0, [Value.int ron, Value.ref roa])), (roa, Sum.inl (cI, rok, Sum.inl rof))]) (rPh rwk) (fun (u : Nat × Nat × (Nat → Int32)) => rPh u.2.1) := by
  refine my_ofVg (cc := prog_8_method_9_code) (n := 2) (ret := none) (by decide) rfl (Nat.le_of_ble_eq_true rfl) ?_
  intro p e s m args below meth c R Q A ls H locs hx hb hr hts hown hlocks hml hnm hR hQ hA hl hP hK hN hD hS
  have hg : ∀ w ∈ gw, w.before args s = true := fun w h => hts w (List.mem_cons_of_mem _ h)
  have hown : s.vm.findClass "RangeCoders$Ranged" = some m.cls := hown
  have hl : lv_has ls 2 [(0, Value.ref co)] := hl
  refine lv_aload_n hx hb d_Ranged_closeMessage_0 rfl (lv_at hl 0 rfl) ?_
  refine my_cvg (wr := [(ro, Sum.inr (0, [Value.int ron, Value.ref roa])), (roa, Sum.inl (cI, rok, Sum.inl rof))]) (va_runU (As := []) (rest := []) ⟨hx, hb, hml, hown, hts⟩ (f_NoCarries_flush l dC dI cI cM cO H.size (hSl H) co xrange xcode xreadLow xreadRange ri ro rw xasked L rwa rwk rwf bs (by first | assumption | omega) (by first | assumption | omega) (by first | assumption | omega) (by omega)) (va_cwA 0 hts (my_gU k578 k580 k585 k586 k7 k587) rfl rfl rfl (hN.1 _ j579 rfl) (by decide +kernel) ⟨by rw [hR]; exact Nat.le_of_ble_eq_true rfl, by rw [hR]; exact Nat.le_of_ble_eq_true rfl⟩) (my_preVg hK hN (hP.sub [0, 1, 2] rfl) (hD.sub [0, 1, 2] (by decide +kernel) rfl) 0 rfl rfl) rfl rfl hl.1 rfl (lv_room (Nat.le_of_ble_eq_true rfl)) d_Ranged_closeMessage_1 ⟨by rw [hR]; exact (show 0 + (rPh rwk) ≤ (rPh rwk) by omega), by rw [hR]; exact (show 0 + (rPh rwk) ≤ (rPh rwk) by omega)⟩) hP hD hS hA [0, 1, 2] [3, 4] rfl rfl (by decide +kernel) (by decide +kernel) (fun u9 d_1 H locs hd_1 hw_1 hP hD hS => ?_)
  obtain ⟨rwaq_1, rwkq_1, rwfq_1⟩ := u9
  obtain ⟨hrw_1, hGrw_1⟩ : rOk (nI ((tpK 4 (L, bs)).2).length) rwkq_1 ∧ gIs rwfq_1 ((tpK 4 (L, bs)).2) := hw_1
  have hd_1 : d_1 + (rPh rwkq_1) ≤ (rPh rwk) := hd_1
  have hPD : my_PD (dC, dI) vwCl A [(ro, Sum.inr (0, [Value.int ron, Value.ref roa])), (roa, Sum.inl (cI, rok, Sum.inl rof)), (co, Sum.inr (2, [Value.long (lN (tpK 4 (L, bs)).1), Value.long xrange, Value.long xcode, Value.long xreadLow, Value.long xreadRange, Value.ref ri, Value.ref ro, Value.ref rw, Value.int xasked])), (rw, Sum.inr (0, [Value.int (nI (tpK 4 (L, bs)).2.length), Value.ref rwaq_1])), (rwaq_1, Sum.inl (cI, rwkq_1, Sum.inl rwfq_1))] H := ⟨hP, hD⟩
  have hP := hPD.1
  have hD := hPD.2
  refine lv_aload_n hx hb d_Ranged_closeMessage_4 rfl (lv_at hl 0 rfl) ?_
  refine va_get (D := (dC, dI)) (ci := 2) (v := .ref ro) (C := "RangeCoders$NoCarries") (T := T_NoCarries) (N := 9) hx hb hg in_NoCarries hown hK hP 2 rfl rfl 6 (by decide) (hg _ k109) (fun x9 h9 => u_same (hg _ k110) x9 h9) rfl d_Ranged_closeMessage_5 ?_
  refine lv_astore_n (lv' := [(1, Value.ref ro), (0, Value.ref co)]) hx hb d_Ranged_closeMessage_8 rfl hl (by decide) rfl (fun ls hl => ?_)
  refine lv_aload_n hx hb d_Ranged_closeMessage_9 rfl (lv_at hl 1 rfl) ?_
  refine lv_aload_n hx hb d_Ranged_closeMessage_10 rfl (lv_at hl 1 rfl) ?_
  refine va_get (D := (dC, dI)) (ci := 2) (v := .ref rw) (C := "RangeCoders$NoCarries") (T := T_NoCarries) (N := 9) hx hb hg in_NoCarries hown hK hP 2 rfl rfl 7 (by decide) (hg _ k116) (fun x9 h9 => u_same (hg _ k117) x9 h9) rfl d_Ranged_closeMessage_11 ?_
  refine va_put (D := (dC, dI)) (ci := 2) (v := .ref rw) (ty := (.object "RangeCoders$Row")) (C := "RangeCoders$NoCarries") (T := T_NoCarries) (N := 9) hx hb hg in_NoCarries t_NoCarries o_NoCarries n_NoCarries hown hK hP hD hS 2 rfl rfl 6 (by decide) (hg _ k109) (fun x9 h9 => u_same (hg _ k110) x9 h9) rfl (o_NoCarries 6 (by decide)) rfl rfl (Nat.le_of_ble_eq_true rfl) d_Ranged_closeMessage_14 (fun H locs hP hD hS => ?_)
  have hPD : my_PD (dC, dI) vwCl A [(ro, Sum.inr (0, [Value.int ron, Value.ref roa])), (roa, Sum.inl (cI, rok, Sum.inl rof)), (co, Sum.inr (2, [Value.long (lN (tpK 4 (L, bs)).1), Value.long xrange, Value.long xcode, Value.long xreadLow, Value.long xreadRange, Value.ref ri, Value.ref rw, Value.ref rw, Value.int xasked])), (rw, Sum.inr (0, [Value.int (nI (tpK 4 (L, bs)).2.length), Value.ref rwaq_1])), (rwaq_1, Sum.inl (cI, rwkq_1, Sum.inl rwfq_1))] H := ⟨hP, hD⟩
  have hP := hPD.1
  have hD := hPD.2
  refine lv_aload_n hx hb d_Ranged_closeMessage_17 rfl (lv_at hl 1 rfl) ?_
  refine lv_aload_n hx hb d_Ranged_closeMessage_18 rfl (lv_at hl 0 rfl) ?_
  refine va_put (D := (dC, dI)) (ci := 2) (v := .ref ro) (ty := (.object "RangeCoders$Row")) (C := "RangeCoders$NoCarries") (T := T_NoCarries) (N := 9) hx hb hg in_NoCarries t_NoCarries o_NoCarries n_NoCarries hown hK hP hD hS 2 rfl rfl 7 (by decide) (hg _ k116) (fun x9 h9 => u_same (hg _ k117) x9 h9) rfl (o_NoCarries 7 (by decide)) rfl rfl (Nat.le_of_ble_eq_true rfl) d_Ranged_closeMessage_19 (fun H locs hP hD hS => ?_)
  have hPD : my_PD (dC, dI) vwCl A [(ro, Sum.inr (0, [Value.int ron, Value.ref roa])), (roa, Sum.inl (cI, rok, Sum.inl rof)), (co, Sum.inr (2, [Value.long (lN (tpK 4 (L, bs)).1), Value.long xrange, Value.long xcode, Value.long xreadLow, Value.long xreadRange, Value.ref ri, Value.ref rw, Value.ref ro, Value.int xasked])), (rw, Sum.inr (0, [Value.int (nI (tpK 4 (L, bs)).2.length), Value.ref rwaq_1])), (rwaq_1, Sum.inl (cI, rwkq_1, Sum.inl rwfq_1))] H := ⟨hP, hD⟩
  have hP := hPD.1
  have hD := hPD.2
  exact my_vretg hx hb hr hlocks hQ hK hS (rwaq_1, rwkq_1, rwfq_1) (show (0 + d_1) + (rPh rwkq_1) ≤ (rPh rwk) by omega) (show (0 + d_1) + (rPh rwkq_1) ≤ (rPh rwk) by omega) (⟨hrw_1, hGrw_1⟩) (hP.sub [2, 3, 4, 0, 1] rfl) (hD.sub [2, 3, 4, 0, 1] (by decide +kernel) rfl) d_Ranged_closeMessage_22
set_option maxHeartbeats 2000000 in
set_option maxRecDepth 100000 in
theorem f_Bits_close (l : Launch) (dC : Nat → ClassId) (dI : Nat → Nat → Nat) (cI cM cO : ClassId) (sz : Nat) (sl : Nat) (co : Nat) (xshift : Int32) (xkeptCode : Int64) (xkeptRange : Int64) (xkeptAsked : Int32) (xcode : Int64) (xreadLow : Int64) (xreadRange : Int64) (ri : Nat) (ro : Nat) (rw : Nat) (xasked : Int32) (Rg : Nat) (L : Nat) (ca : Option Nat) (Pn : Nat) (rwa : Nat) (rwk : Nat) (rwf : Nat → Int32) (bs : List Nat) (ron : Int32) (roa : Nat) (rok : Nat) (rof : Nat → Int32) (hE : eOk (Rg, L, ca, Pn, bs)) (hrw : rOk (nI bs.length) rwk) (hGrw : gIs rwf bs) (hN9 : bs.length + 20 + Pn ≤ 7900) : MetVg l y_Ranged_closeMessage (Cond.code y_Ranged_closeMessage prog_8_method_9_code 2 none :: gw) ({ frames := 6, cells := rPh rwk, slots := rPh rwk, locals := 146 } : Room) (dC, dI) vwCl (kT cI cM cO) [Value.ref co] [(co, Sum.inr (3, [Value.int xshift, Value.long xkeptCode, Value.long xkeptRange, Value.int xkeptAsked, Value.int (caI ca), Value.int (nI Pn), Value.long (lN L), Value.long (lN Rg), Value.long xcode, Value.long xreadLow, Value.long xreadRange, Value.ref ri, Value.ref ro, Value.ref rw, Value.int xasked])), (rw, Sum.inr (0, [Value.int (nI bs.length), Value.ref rwa])), (rwa, Sum.inl (cI, rwk, Sum.inl rwf)), (ro, Sum.inr (0, [Value.int ron, Value.ref roa])), (roa, Sum.inl (cI, rok, Sum.inl rof))] sz sl (fun (u : Nat × Nat × (Nat → Int32)) => rOk (nI ((eB (shK 5 (Rg, L, ca, Pn, bs)))).length) u.2.1 ∧ gIs u.2.2 ((eB (shK 5 (Rg, L, ca, Pn, bs))))) (fun (u : Nat × Nat × (Nat → Int32)) => [(co, Sum.inr (3, [Value.int xshift, Value.long xkeptCode, Value.long xkeptRange, Value.int xkeptAsked, Value.int (caI (eC (shK 5 (Rg, L, ca, Pn, bs)))), Value.int (nI (eP (shK 5 (Rg, L, ca, Pn, bs)))), Value.long (lN (eL (shK 5 (Rg, L, ca, Pn, bs)))), Value.long (lN (eR (shK 5 (Rg, L, ca, Pn, bs)))), Value.long xcode, Value.long xreadLow, Value.long xreadRange, Value.ref ri, Value.ref rw, Value.ref ro, Value.int xasked])), (rw, Sum.inr (0, [Value.int (nI (eB (shK 5 (Rg, L, ca, Pn, bs))).length), Value.ref u.1])), (u.1, Sum.inl (cI, u.2.1, Sum.inl u.2.2)), (ro, Sum.inr (0, [Value.int ron, Value.ref roa])), (roa, Sum.inl (cI, rok, Sum.inl rof))]) (rPh rwk) (fun (u : Nat × Nat × (Nat → Int32)) => rPh u.2.1) := by
  refine my_ofVg (cc := prog_8_method_9_code) (n := 2) (ret := none) (by decide) rfl (Nat.le_of_ble_eq_true rfl) ?_
  intro p e s m args below meth c R Q A ls H locs hx hb hr hts hown hlocks hml hnm hR hQ hA hl hP hK hN hD hS
  have hg : ∀ w ∈ gw, w.before args s = true := fun w h => hts w (List.mem_cons_of_mem _ h)
  have hown : s.vm.findClass "RangeCoders$Ranged" = some m.cls := hown
  have hl : lv_has ls 2 [(0, Value.ref co)] := hl
  refine lv_aload_n hx hb d_Ranged_closeMessage_0 rfl (lv_at hl 0 rfl) ?_
  refine my_cvg (wr := [(ro, Sum.inr (0, [Value.int ron, Value.ref roa])), (roa, Sum.inl (cI, rok, Sum.inl rof))]) (va_runU (As := []) (rest := []) ⟨hx, hb, hml, hown, hts⟩ (f_Bits_flush l dC dI cI cM cO H.size (hSl H) co xshift xkeptCode xkeptRange xkeptAsked xcode xreadLow xreadRange ri ro rw xasked Rg L ca Pn rwa rwk rwf bs (by first | assumption | omega) (by first | assumption | omega) (by first | assumption | omega) (by omega)) (va_cwA 0 hts (my_gU k578 k580 k581 k582 k5 k583) rfl rfl rfl (hN.1 _ j579 rfl) (by decide +kernel) ⟨by rw [hR]; exact Nat.le_of_ble_eq_true rfl, by rw [hR]; exact Nat.le_of_ble_eq_true rfl⟩) (my_preVg hK hN (hP.sub [0, 1, 2] rfl) (hD.sub [0, 1, 2] (by decide +kernel) rfl) 0 rfl rfl) rfl rfl hl.1 rfl (lv_room (Nat.le_of_ble_eq_true rfl)) d_Ranged_closeMessage_1 ⟨by rw [hR]; exact (show 0 + (rPh rwk) ≤ (rPh rwk) by omega), by rw [hR]; exact (show 0 + (rPh rwk) ≤ (rPh rwk) by omega)⟩) hP hD hS hA [0, 1, 2] [3, 4] rfl rfl (by decide +kernel) (by decide +kernel) (fun u9 d_1 H locs hd_1 hw_1 hP hD hS => ?_)
  obtain ⟨rwaq_1, rwkq_1, rwfq_1⟩ := u9
  obtain ⟨hrw_1, hGrw_1⟩ : rOk (nI (eB (shK 5 (Rg, L, ca, Pn, bs))).length) rwkq_1 ∧ gIs rwfq_1 (eB (shK 5 (Rg, L, ca, Pn, bs))) := hw_1
  have hd_1 : d_1 + (rPh rwkq_1) ≤ (rPh rwk) := hd_1
  have hPD : my_PD (dC, dI) vwCl A [(ro, Sum.inr (0, [Value.int ron, Value.ref roa])), (roa, Sum.inl (cI, rok, Sum.inl rof)), (co, Sum.inr (3, [Value.int xshift, Value.long xkeptCode, Value.long xkeptRange, Value.int xkeptAsked, Value.int (caI (eC (shK 5 (Rg, L, ca, Pn, bs)))), Value.int (nI (eP (shK 5 (Rg, L, ca, Pn, bs)))), Value.long (lN (eL (shK 5 (Rg, L, ca, Pn, bs)))), Value.long (lN (eR (shK 5 (Rg, L, ca, Pn, bs)))), Value.long xcode, Value.long xreadLow, Value.long xreadRange, Value.ref ri, Value.ref ro, Value.ref rw, Value.int xasked])), (rw, Sum.inr (0, [Value.int (nI (eB (shK 5 (Rg, L, ca, Pn, bs))).length), Value.ref rwaq_1])), (rwaq_1, Sum.inl (cI, rwkq_1, Sum.inl rwfq_1))] H := ⟨hP, hD⟩
  have hP := hPD.1
  have hD := hPD.2
  refine lv_aload_n hx hb d_Ranged_closeMessage_4 rfl (lv_at hl 0 rfl) ?_
  refine va_get (D := (dC, dI)) (ci := 3) (v := .ref ro) (C := "RangeCoders$Bits") (T := T_Bits) (N := 15) hx hb hg in_Bits hown hK hP 2 rfl rfl 12 (by decide) (hg _ k109) (fun x9 h9 => u_same (hg _ k110) x9 h9) rfl d_Ranged_closeMessage_5 ?_
  refine lv_astore_n (lv' := [(1, Value.ref ro), (0, Value.ref co)]) hx hb d_Ranged_closeMessage_8 rfl hl (by decide) rfl (fun ls hl => ?_)
  refine lv_aload_n hx hb d_Ranged_closeMessage_9 rfl (lv_at hl 1 rfl) ?_
  refine lv_aload_n hx hb d_Ranged_closeMessage_10 rfl (lv_at hl 1 rfl) ?_
  refine va_get (D := (dC, dI)) (ci := 3) (v := .ref rw) (C := "RangeCoders$Bits") (T := T_Bits) (N := 15) hx hb hg in_Bits hown hK hP 2 rfl rfl 13 (by decide) (hg _ k116) (fun x9 h9 => u_same (hg _ k117) x9 h9) rfl d_Ranged_closeMessage_11 ?_
  refine va_put (D := (dC, dI)) (ci := 3) (v := .ref rw) (ty := (.object "RangeCoders$Row")) (C := "RangeCoders$Bits") (T := T_Bits) (N := 15) hx hb hg in_Bits t_Bits o_Bits n_Bits hown hK hP hD hS 2 rfl rfl 12 (by decide) (hg _ k109) (fun x9 h9 => u_same (hg _ k110) x9 h9) rfl (o_Bits 12 (by decide)) rfl rfl (Nat.le_of_ble_eq_true rfl) d_Ranged_closeMessage_14 (fun H locs hP hD hS => ?_)
  have hPD : my_PD (dC, dI) vwCl A [(ro, Sum.inr (0, [Value.int ron, Value.ref roa])), (roa, Sum.inl (cI, rok, Sum.inl rof)), (co, Sum.inr (3, [Value.int xshift, Value.long xkeptCode, Value.long xkeptRange, Value.int xkeptAsked, Value.int (caI (eC (shK 5 (Rg, L, ca, Pn, bs)))), Value.int (nI (eP (shK 5 (Rg, L, ca, Pn, bs)))), Value.long (lN (eL (shK 5 (Rg, L, ca, Pn, bs)))), Value.long (lN (eR (shK 5 (Rg, L, ca, Pn, bs)))), Value.long xcode, Value.long xreadLow, Value.long xreadRange, Value.ref ri, Value.ref rw, Value.ref rw, Value.int xasked])), (rw, Sum.inr (0, [Value.int (nI (eB (shK 5 (Rg, L, ca, Pn, bs))).length), Value.ref rwaq_1])), (rwaq_1, Sum.inl (cI, rwkq_1, Sum.inl rwfq_1))] H := ⟨hP, hD⟩
  have hP := hPD.1
  have hD := hPD.2
  refine lv_aload_n hx hb d_Ranged_closeMessage_17 rfl (lv_at hl 1 rfl) ?_
  refine lv_aload_n hx hb d_Ranged_closeMessage_18 rfl (lv_at hl 0 rfl) ?_
  refine va_put (D := (dC, dI)) (ci := 3) (v := .ref ro) (ty := (.object "RangeCoders$Row")) (C := "RangeCoders$Bits") (T := T_Bits) (N := 15) hx hb hg in_Bits t_Bits o_Bits n_Bits hown hK hP hD hS 2 rfl rfl 13 (by decide) (hg _ k116) (fun x9 h9 => u_same (hg _ k117) x9 h9) rfl (o_Bits 13 (by decide)) rfl rfl (Nat.le_of_ble_eq_true rfl) d_Ranged_closeMessage_19 (fun H locs hP hD hS => ?_)
  have hPD : my_PD (dC, dI) vwCl A [(ro, Sum.inr (0, [Value.int ron, Value.ref roa])), (roa, Sum.inl (cI, rok, Sum.inl rof)), (co, Sum.inr (3, [Value.int xshift, Value.long xkeptCode, Value.long xkeptRange, Value.int xkeptAsked, Value.int (caI (eC (shK 5 (Rg, L, ca, Pn, bs)))), Value.int (nI (eP (shK 5 (Rg, L, ca, Pn, bs)))), Value.long (lN (eL (shK 5 (Rg, L, ca, Pn, bs)))), Value.long (lN (eR (shK 5 (Rg, L, ca, Pn, bs)))), Value.long xcode, Value.long xreadLow, Value.long xreadRange, Value.ref ri, Value.ref rw, Value.ref ro, Value.int xasked])), (rw, Sum.inr (0, [Value.int (nI (eB (shK 5 (Rg, L, ca, Pn, bs))).length), Value.ref rwaq_1])), (rwaq_1, Sum.inl (cI, rwkq_1, Sum.inl rwfq_1))] H := ⟨hP, hD⟩
  have hP := hPD.1
  have hD := hPD.2
  exact my_vretg hx hb hr hlocks hQ hK hS (rwaq_1, rwkq_1, rwfq_1) (show (0 + d_1) + (rPh rwkq_1) ≤ (rPh rwk) by omega) (show (0 + d_1) + (rPh rwkq_1) ≤ (rPh rwk) by omega) (⟨hrw_1, hGrw_1⟩) (hP.sub [2, 3, 4, 0, 1] rfl) (hD.sub [2, 3, 4, 0, 1] (by decide +kernel) rfl) d_Ranged_closeMessage_22
set_option maxHeartbeats 2000000 in
set_option maxRecDepth 100000 in
theorem f_Stack_keep (l : Launch) (dC : Nat → ClassId) (dI : Nat → Nat → Nat) (cI cM cO : ClassId) (sz : Nat) (co : Nat) (xx : Int64) (xreadX : Int64) (soa : Nat) (sna : Nat) (swa : Nat) (ri : Nat) (ro : Nat) (rw : Nat) (xasked : Int32) (sof : Nat → Option Nat) (snf : Nat → Int32) (swf : Nat → Int32) (oo : Nat) (osg : Int32) (ofc : Int32) (oca : Nat) (opa : Nat) (n : Nat) (ocf : Nat → Int32) (opl : Nat) (opf : Nat → Int32) (osm : Int32) (ki : Nat) (nb : Int32) (wd : Int32) (hki : ki < 600) : MetV l y_Stacked_keep (Cond.code y_Stacked_keep prog_11_method_11_code 4 none :: gw) ({ frames := 0, cells := 0, slots := 0, locals := 0 } : Room) (dC, dI) vwCl (kT cI cM cO) [Value.ref co, Value.ref oo, Value.int nb, Value.int wd] [(co, Sum.inr (4, [Value.long xx, Value.long xreadX, Value.ref soa, Value.ref sna, Value.ref swa, Value.int (nI ki), Value.ref ri, Value.ref ro, Value.ref rw, Value.int xasked])), (soa, Sum.inl (cO, 600, Sum.inr (Sum.inr (Sum.inr (Sum.inr sof))))), (sna, Sum.inl (cI, 600, Sum.inl snf)), (swa, Sum.inl (cI, 600, Sum.inl swf)), (oo, Sum.inr (7, [Value.int osg, Value.int osm, Value.int ofc, Value.ref oca, Value.ref opa])), (oca, Sum.inl (cI, n, Sum.inl ocf)), (opa, Sum.inl (cI, opl, Sum.inl opf))] sz (fun (u : (Nat → Option Nat) × (Nat → Int32) × (Nat → Int32)) => u.1 = va_up sof ki (some oo) ∧ u.2.1 = upd snf ki nb ∧ u.2.2 = upd swf ki wd) (fun (u : (Nat → Option Nat) × (Nat → Int32) × (Nat → Int32)) => [(co, Sum.inr (4, [Value.long xx, Value.long xreadX, Value.ref soa, Value.ref sna, Value.ref swa, Value.int (nI (ki + 1)), Value.ref ri, Value.ref ro, Value.ref rw, Value.int xasked])), (soa, Sum.inl (cO, 600, Sum.inr (Sum.inr (Sum.inr (Sum.inr u.1))))), (sna, Sum.inl (cI, 600, Sum.inl u.2.1)), (swa, Sum.inl (cI, 600, Sum.inl u.2.2)), (oo, Sum.inr (7, [Value.int osg, Value.int osm, Value.int ofc, Value.ref oca, Value.ref opa])), (oca, Sum.inl (cI, n, Sum.inl ocf)), (opa, Sum.inl (cI, opl, Sum.inl opf))]) 0 0 := by
  refine my_ofV (cc := prog_11_method_11_code) (n := 4) (ret := none) (by decide) rfl (Nat.le_of_ble_eq_true rfl) ?_
  intro p e s m args below meth c R Q A ls H locs hx hb hr hts hown hlocks hml hnm hR hQ hA hl hP hK hN hD hS
  have hg : ∀ w ∈ gw, w.before args s = true := fun w h => hts w (List.mem_cons_of_mem _ h)
  have hown : s.vm.findClass "RangeCoders$Stacked" = some m.cls := hown
  have hl : lv_has ls 4 [(0, Value.ref co), (1, Value.ref oo), (2, Value.int nb), (3, Value.int wd)] := hl
  refine lv_aload_n hx hb d_Stacked_keep_0 rfl (lv_at hl 0 rfl) ?_
  refine va_get (D := (dC, dI)) (ci := 4) (v := .int (nI ki)) (C := "RangeCoders$Stack") (T := T_Stack) (N := 10) hx hb hg in_Stack hown hK hP 0 rfl rfl 5 (by decide) (hg _ k223) (fun _ h9 => h9) rfl d_Stacked_keep_1 ?_
  refine lv_if_lt (tgt := 57) hx hb d_Stacked_keep_4 (by decide) (fun c_1 => ?_) (fun c_1 => ?_)
  · exact absurd c_1 (nI_pos (by omega))
  · refine lv_aload_n hx hb d_Stacked_keep_7 rfl (lv_at hl 0 rfl) ?_
    refine va_get (D := (dC, dI)) (ci := 4) (v := .int (nI ki)) (C := "RangeCoders$Stack") (T := T_Stack) (N := 10) hx hb hg in_Stack hown hK hP 0 rfl rfl 5 (by decide) (hg _ k223) (fun _ h9 => h9) rfl d_Stacked_keep_8 ?_
    refine lv_sipush (v := 600) hx hb d_Stacked_keep_11 (by decide) ?_
    refine lv_icmp_ge (tgt := 57) hx hb d_Stacked_keep_14 (by decide) (fun c_2 => ?_) (fun c_2 => ?_)
    · exact absurd (nI_ge' (n := 600) (by omega) (by decide) c_2) (by omega)
    · refine lv_aload_n hx hb d_Stacked_keep_17 rfl (lv_at hl 0 rfl) ?_
      refine va_get (D := (dC, dI)) (ci := 4) (v := .ref soa) (C := "RangeCoders$Stack") (T := T_Stack) (N := 10) hx hb hg in_Stack hown hK hP 0 rfl rfl 2 (by decide) (hg _ k220) (fun _ h9 => h9) rfl d_Stacked_keep_18 ?_
      refine lv_aload_n hx hb d_Stacked_keep_21 rfl (lv_at hl 0 rfl) ?_
      refine va_get (D := (dC, dI)) (ci := 4) (v := .int (nI ki)) (C := "RangeCoders$Stack") (T := T_Stack) (N := 10) hx hb hg in_Stack hown hK hP 0 rfl rfl 5 (by decide) (hg _ k223) (fun _ h9 => h9) rfl d_Stacked_keep_22 ?_
      refine lv_aload_n hx hb d_Stacked_keep_25 rfl (lv_at hl 1 rfl) ?_
      refine va_astq hx hb hK hP hD hS 1 2 4 7 rfl rfl rfl rfl (vp_in_nI hki (by decide)) d_Stacked_keep_26 (fun H locs hP hD hS => ?_)
      have hPD : my_PD (dC, dI) vwCl A [(co, Sum.inr (4, [Value.long xx, Value.long xreadX, Value.ref soa, Value.ref sna, Value.ref swa, Value.int (nI ki), Value.ref ri, Value.ref ro, Value.ref rw, Value.int xasked])), (soa, Sum.inl (cO, 600, Sum.inr (Sum.inr (Sum.inr (Sum.inr (va_up sof (nI ki).toNatClampNeg (some oo))))))), (sna, Sum.inl (cI, 600, Sum.inl snf)), (swa, Sum.inl (cI, 600, Sum.inl swf)), (oo, Sum.inr (7, [Value.int osg, Value.int osm, Value.int ofc, Value.ref oca, Value.ref opa])), (oca, Sum.inl (cI, n, Sum.inl ocf)), (opa, Sum.inl (cI, opl, Sum.inl opf))] H := ⟨hP, hD⟩
      have hP := hPD.1
      have hD := hPD.2
      refine lv_aload_n hx hb d_Stacked_keep_27 rfl (lv_at hl 0 rfl) ?_
      refine va_get (D := (dC, dI)) (ci := 4) (v := .ref sna) (C := "RangeCoders$Stack") (T := T_Stack) (N := 10) hx hb hg in_Stack hown hK hP 0 rfl rfl 3 (by decide) (hg _ k221) (fun _ h9 => h9) rfl d_Stacked_keep_28 ?_
      refine lv_aload_n hx hb d_Stacked_keep_31 rfl (lv_at hl 0 rfl) ?_
      refine va_get (D := (dC, dI)) (ci := 4) (v := .int (nI ki)) (C := "RangeCoders$Stack") (T := T_Stack) (N := 10) hx hb hg in_Stack hown hK hP 0 rfl rfl 5 (by decide) (hg _ k223) (fun _ h9 => h9) rfl d_Stacked_keep_32 ?_
      refine lv_iload_n hx hb d_Stacked_keep_35 rfl (lv_at hl 2 rfl) ?_
      refine va_iast hx hb hK hP hD hS 2 0 rfl rfl (vp_in_nI hki (by decide)) d_Stacked_keep_36 (fun H locs hP hD hS => ?_)
      have hPD : my_PD (dC, dI) vwCl A [(co, Sum.inr (4, [Value.long xx, Value.long xreadX, Value.ref soa, Value.ref sna, Value.ref swa, Value.int (nI ki), Value.ref ri, Value.ref ro, Value.ref rw, Value.int xasked])), (soa, Sum.inl (cO, 600, Sum.inr (Sum.inr (Sum.inr (Sum.inr (va_up sof (nI ki).toNatClampNeg (some oo))))))), (sna, Sum.inl (cI, 600, Sum.inl (upd snf (nI ki).toNatClampNeg nb))), (swa, Sum.inl (cI, 600, Sum.inl swf)), (oo, Sum.inr (7, [Value.int osg, Value.int osm, Value.int ofc, Value.ref oca, Value.ref opa])), (oca, Sum.inl (cI, n, Sum.inl ocf)), (opa, Sum.inl (cI, opl, Sum.inl opf))] H := ⟨hP, hD⟩
      have hP := hPD.1
      have hD := hPD.2
      refine lv_aload_n hx hb d_Stacked_keep_37 rfl (lv_at hl 0 rfl) ?_
      refine va_get (D := (dC, dI)) (ci := 4) (v := .ref swa) (C := "RangeCoders$Stack") (T := T_Stack) (N := 10) hx hb hg in_Stack hown hK hP 0 rfl rfl 4 (by decide) (hg _ k222) (fun _ h9 => h9) rfl d_Stacked_keep_38 ?_
      refine lv_aload_n hx hb d_Stacked_keep_41 rfl (lv_at hl 0 rfl) ?_
      refine va_get (D := (dC, dI)) (ci := 4) (v := .int (nI ki)) (C := "RangeCoders$Stack") (T := T_Stack) (N := 10) hx hb hg in_Stack hown hK hP 0 rfl rfl 5 (by decide) (hg _ k223) (fun _ h9 => h9) rfl d_Stacked_keep_42 ?_
      refine lv_iload_n hx hb d_Stacked_keep_45 rfl (lv_at hl 3 rfl) ?_
      refine va_iast hx hb hK hP hD hS 3 0 rfl rfl (vp_in_nI hki (by decide)) d_Stacked_keep_46 (fun H locs hP hD hS => ?_)
      have hPD : my_PD (dC, dI) vwCl A [(co, Sum.inr (4, [Value.long xx, Value.long xreadX, Value.ref soa, Value.ref sna, Value.ref swa, Value.int (nI ki), Value.ref ri, Value.ref ro, Value.ref rw, Value.int xasked])), (soa, Sum.inl (cO, 600, Sum.inr (Sum.inr (Sum.inr (Sum.inr (va_up sof (nI ki).toNatClampNeg (some oo))))))), (sna, Sum.inl (cI, 600, Sum.inl (upd snf (nI ki).toNatClampNeg nb))), (swa, Sum.inl (cI, 600, Sum.inl (upd swf (nI ki).toNatClampNeg wd))), (oo, Sum.inr (7, [Value.int osg, Value.int osm, Value.int ofc, Value.ref oca, Value.ref opa])), (oca, Sum.inl (cI, n, Sum.inl ocf)), (opa, Sum.inl (cI, opl, Sum.inl opf))] H := ⟨hP, hD⟩
      have hP := hPD.1
      have hD := hPD.2
      refine lv_aload_n hx hb d_Stacked_keep_47 rfl (lv_at hl 0 rfl) ?_
      refine lv_dup hx hb d_Stacked_keep_48 rfl ?_
      refine va_get (D := (dC, dI)) (ci := 4) (v := .int (nI ki)) (C := "RangeCoders$Stack") (T := T_Stack) (N := 10) hx hb hg in_Stack hown hK hP 0 rfl rfl 5 (by decide) (hg _ k223) (fun _ h9 => h9) rfl d_Stacked_keep_49 ?_
      refine lv_iconst (v := 1) hx hb d_Stacked_keep_52 (by decide) ?_
      refine lv_iadd hx hb d_Stacked_keep_53 ?_
      refine lv_topi (fun v_3 ev_3 => ?_)
      have z9 : v_3 = nI (ki + 1) := by rw [ev_3]; exact nI_1 _
      subst z9
      refine va_put (D := (dC, dI)) (ci := 4) (v := .int (nI (ki + 1))) (ty := .int) (C := "RangeCoders$Stack") (T := T_Stack) (N := 10) hx hb hg in_Stack t_Stack o_Stack n_Stack hown hK hP hD hS 0 rfl rfl 5 (by decide) (hg _ k223) (fun _ h9 => h9) rfl (o_Stack 5 (by decide)) rfl rfl (Nat.le_of_ble_eq_true rfl) d_Stacked_keep_54 (fun H locs hP hD hS => ?_)
      have hPD : my_PD (dC, dI) vwCl A [(co, Sum.inr (4, [Value.long xx, Value.long xreadX, Value.ref soa, Value.ref sna, Value.ref swa, Value.int (nI (ki + 1)), Value.ref ri, Value.ref ro, Value.ref rw, Value.int xasked])), (soa, Sum.inl (cO, 600, Sum.inr (Sum.inr (Sum.inr (Sum.inr (va_up sof (nI ki).toNatClampNeg (some oo))))))), (sna, Sum.inl (cI, 600, Sum.inl (upd snf (nI ki).toNatClampNeg nb))), (swa, Sum.inl (cI, 600, Sum.inl (upd swf (nI ki).toNatClampNeg wd))), (oo, Sum.inr (7, [Value.int osg, Value.int osm, Value.int ofc, Value.ref oca, Value.ref opa])), (oca, Sum.inl (cI, n, Sum.inl ocf)), (opa, Sum.inl (cI, opl, Sum.inl opf))] H := ⟨hP, hD⟩
      have hP := hPD.1
      have hD := hPD.2
      exact my_vret hx hb hr hlocks hQ hK hS (Nat.le_refl _) (Nat.le_refl _) (va_up sof (nI ki).toNatClampNeg (some oo), upd snf (nI ki).toNatClampNeg nb, upd swf (nI ki).toNatClampNeg wd) (⟨by rw [nI_clamp (by omega)], by rw [nI_clamp (by omega)], by rw [nI_clamp (by omega)]⟩) (hP.sub [0, 1, 2, 3, 4, 5, 6] rfl) (hD.sub [0, 1, 2, 3, 4, 5, 6] (by decide +kernel) rfl) d_Stacked_keep_57
set_option maxHeartbeats 2000000 in
set_option maxRecDepth 100000 in
theorem f_Stack_writeSign (l : Launch) (dC : Nat → ClassId) (dI : Nat → Nat → Nat) (cI cM cO : ClassId) (sz : Nat) (co : Nat) (xx : Int64) (xreadX : Int64) (soa : Nat) (sna : Nat) (swa : Nat) (ri : Nat) (ro : Nat) (rw : Nat) (xasked : Int32) (sof : Nat → Option Nat) (snf : Nat → Int32) (swf : Nat → Int32) (oo : Nat) (osg : Int32) (ofc : Int32) (oca : Nat) (opa : Nat) (n : Nat) (ocf : Nat → Int32) (opl : Nat) (opf : Nat → Int32) (osm : Int32) (ki : Nat) (t : Nat) (hki : ki < 600) : MetV l y_Stacked_writeSign (Cond.code y_Stacked_writeSign prog_11_method_7_code 3 none :: gw) ({ frames := 1, cells := 0, slots := 0, locals := 23 } : Room) (dC, dI) vwCl (kT cI cM cO) [Value.ref co, Value.ref oo, Value.int (nI t)] [(co, Sum.inr (4, [Value.long xx, Value.long xreadX, Value.ref soa, Value.ref sna, Value.ref swa, Value.int (nI ki), Value.ref ri, Value.ref ro, Value.ref rw, Value.int xasked])), (soa, Sum.inl (cO, 600, Sum.inr (Sum.inr (Sum.inr (Sum.inr sof))))), (sna, Sum.inl (cI, 600, Sum.inl snf)), (swa, Sum.inl (cI, 600, Sum.inl swf)), (oo, Sum.inr (7, [Value.int osg, Value.int osm, Value.int ofc, Value.ref oca, Value.ref opa])), (oca, Sum.inl (cI, n, Sum.inl ocf)), (opa, Sum.inl (cI, opl, Sum.inl opf))] sz (fun (u : (Nat → Option Nat) × (Nat → Int32) × (Nat → Int32)) => u.1 = va_up sof ki (some oo) ∧ u.2.1 = upd snf ki (nI t) ∧ u.2.2 = upd swf ki 0) (fun (u : (Nat → Option Nat) × (Nat → Int32) × (Nat → Int32)) => [(co, Sum.inr (4, [Value.long xx, Value.long xreadX, Value.ref soa, Value.ref sna, Value.ref swa, Value.int (nI (ki + 1)), Value.ref ri, Value.ref ro, Value.ref rw, Value.int xasked])), (soa, Sum.inl (cO, 600, Sum.inr (Sum.inr (Sum.inr (Sum.inr u.1))))), (sna, Sum.inl (cI, 600, Sum.inl u.2.1)), (swa, Sum.inl (cI, 600, Sum.inl u.2.2)), (oo, Sum.inr (7, [Value.int osg, Value.int osm, Value.int ofc, Value.ref oca, Value.ref opa])), (oca, Sum.inl (cI, n, Sum.inl ocf)), (opa, Sum.inl (cI, opl, Sum.inl opf))]) 0 0 := by
  refine my_ofV (cc := prog_11_method_7_code) (n := 3) (ret := none) (by decide) rfl (Nat.le_of_ble_eq_true rfl) ?_
  intro p e s m args below meth c R Q A ls H locs hx hb hr hts hown hlocks hml hnm hR hQ hA hl hP hK hN hD hS
  have hg : ∀ w ∈ gw, w.before args s = true := fun w h => hts w (List.mem_cons_of_mem _ h)
  have hown : s.vm.findClass "RangeCoders$Stacked" = some m.cls := hown
  have hl : lv_has ls 3 [(0, Value.ref co), (1, Value.ref oo), (2, Value.int (nI t))] := hl
  refine lv_aload_n hx hb d_Stacked_writeSign_0 rfl (lv_at hl 0 rfl) ?_
  refine lv_aload_n hx hb d_Stacked_writeSign_1 rfl (lv_at hl 1 rfl) ?_
  refine lv_iload_n hx hb d_Stacked_writeSign_2 rfl (lv_at hl 2 rfl) ?_
  refine lv_iconst (v := 0) hx hb d_Stacked_writeSign_3 (by decide) ?_
  refine my_cv (wr := []) (va_runU (As := [Value.ref oo, Value.int (nI t), Value.int 0]) (rest := []) ⟨hx, hb, hml, hown, hts⟩ (f_Stack_keep l dC dI cI cM cO H.size co xx xreadX soa sna swa ri ro rw xasked sof snf swf oo osg ofc oca opa n ocf opl opf osm ki (nI t) 0 (by first | assumption | omega)) (va_cwU 3 hts (my_gU k534 k1286 kx2 k536 k9 k537) rfl rfl rfl rfl (by decide +kernel) ⟨by rw [hR]; exact Nat.le_of_ble_eq_true rfl, by rw [hR]; exact Nat.le_of_ble_eq_true rfl⟩) (my_preV hK hN (hP.sub [0, 1, 2, 3, 4, 5, 6] rfl) (hD.sub [0, 1, 2, 3, 4, 5, 6] (by decide +kernel) rfl) 0 rfl rfl) rfl rfl hl.1 rfl (lv_room (Nat.le_of_ble_eq_true rfl)) d_Stacked_writeSign_4 ⟨by rw [hR]; exact Nat.le_of_ble_eq_true rfl, by rw [hR]; exact Nat.le_of_ble_eq_true rfl⟩) hP hD hS hA [0, 1, 2, 3, 4, 5, 6] [] rfl rfl (by decide +kernel) (by decide +kernel) (fun u9 H locs hw_4 hP hD hS => ?_)
  obtain ⟨sofq_4, snfq_4, swfq_4⟩ := u9
  obtain ⟨h1_4, h2_4, h3_4⟩ : sofq_4 = va_up sof ki (some oo) ∧ snfq_4 = upd snf ki (nI t) ∧ swfq_4 = upd swf ki 0 := hw_4
  have hPD : my_PD (dC, dI) vwCl A [(co, Sum.inr (4, [Value.long xx, Value.long xreadX, Value.ref soa, Value.ref sna, Value.ref swa, Value.int (nI (ki + 1)), Value.ref ri, Value.ref ro, Value.ref rw, Value.int xasked])), (soa, Sum.inl (cO, 600, Sum.inr (Sum.inr (Sum.inr (Sum.inr sofq_4))))), (sna, Sum.inl (cI, 600, Sum.inl snfq_4)), (swa, Sum.inl (cI, 600, Sum.inl swfq_4)), (oo, Sum.inr (7, [Value.int osg, Value.int osm, Value.int ofc, Value.ref oca, Value.ref opa])), (oca, Sum.inl (cI, n, Sum.inl ocf)), (opa, Sum.inl (cI, opl, Sum.inl opf))] H := ⟨hP, hD⟩
  have hP := hPD.1
  have hD := hPD.2
  exact my_vret hx hb hr hlocks hQ hK hS (Nat.le_refl _) (Nat.le_refl _) (sofq_4, snfq_4, swfq_4) (⟨h1_4, h2_4, h3_4⟩) (hP.sub [0, 1, 2, 3, 4, 5, 6] rfl) (hD.sub [0, 1, 2, 3, 4, 5, 6] (by decide +kernel) rfl) d_Stacked_writeSign_7
set_option maxHeartbeats 2000000 in
set_option maxRecDepth 100000 in
theorem f_Stack_keepN (l : Launch) (dC : Nat → ClassId) (dI : Nat → Nat → Nat) (cI cM cO : ClassId) (sz : Nat) (co : Nat) (xx : Int64) (xreadX : Int64) (soa : Nat) (sna : Nat) (swa : Nat) (ri : Nat) (ro : Nat) (rw : Nat) (xasked : Int32) (sof : Nat → Option Nat) (snf : Nat → Int32) (swf : Nat → Int32) (ki : Nat) (nb : Int32) (wd : Int32) (hki : ki < 600) : MetV l y_Stacked_keep (Cond.code y_Stacked_keep prog_11_method_11_code 4 none :: gw) ({ frames := 0, cells := 0, slots := 0, locals := 0 } : Room) (dC, dI) vwCl (kT cI cM cO) [Value.ref co, Value.null, Value.int nb, Value.int wd] [(co, Sum.inr (4, [Value.long xx, Value.long xreadX, Value.ref soa, Value.ref sna, Value.ref swa, Value.int (nI ki), Value.ref ri, Value.ref ro, Value.ref rw, Value.int xasked])), (soa, Sum.inl (cO, 600, Sum.inr (Sum.inr (Sum.inr (Sum.inr sof))))), (sna, Sum.inl (cI, 600, Sum.inl snf)), (swa, Sum.inl (cI, 600, Sum.inl swf))] sz (fun (u : (Nat → Option Nat) × (Nat → Int32) × (Nat → Int32)) => u.1 = va_up sof ki (none) ∧ u.2.1 = upd snf ki nb ∧ u.2.2 = upd swf ki wd) (fun (u : (Nat → Option Nat) × (Nat → Int32) × (Nat → Int32)) => [(co, Sum.inr (4, [Value.long xx, Value.long xreadX, Value.ref soa, Value.ref sna, Value.ref swa, Value.int (nI (ki + 1)), Value.ref ri, Value.ref ro, Value.ref rw, Value.int xasked])), (soa, Sum.inl (cO, 600, Sum.inr (Sum.inr (Sum.inr (Sum.inr u.1))))), (sna, Sum.inl (cI, 600, Sum.inl u.2.1)), (swa, Sum.inl (cI, 600, Sum.inl u.2.2))]) 0 0 := by
  refine my_ofV (cc := prog_11_method_11_code) (n := 4) (ret := none) (by decide) rfl (Nat.le_of_ble_eq_true rfl) ?_
  intro p e s m args below meth c R Q A ls H locs hx hb hr hts hown hlocks hml hnm hR hQ hA hl hP hK hN hD hS
  have hg : ∀ w ∈ gw, w.before args s = true := fun w h => hts w (List.mem_cons_of_mem _ h)
  have hown : s.vm.findClass "RangeCoders$Stacked" = some m.cls := hown
  have hl : lv_has ls 4 [(0, Value.ref co), (1, Value.null), (2, Value.int nb), (3, Value.int wd)] := hl
  refine lv_aload_n hx hb d_Stacked_keep_0 rfl (lv_at hl 0 rfl) ?_
  refine va_get (D := (dC, dI)) (ci := 4) (v := .int (nI ki)) (C := "RangeCoders$Stack") (T := T_Stack) (N := 10) hx hb hg in_Stack hown hK hP 0 rfl rfl 5 (by decide) (hg _ k223) (fun _ h9 => h9) rfl d_Stacked_keep_1 ?_
  refine lv_if_lt (tgt := 57) hx hb d_Stacked_keep_4 (by decide) (fun c_1 => ?_) (fun c_1 => ?_)
  · exact absurd c_1 (nI_pos (by omega))
  · refine lv_aload_n hx hb d_Stacked_keep_7 rfl (lv_at hl 0 rfl) ?_
    refine va_get (D := (dC, dI)) (ci := 4) (v := .int (nI ki)) (C := "RangeCoders$Stack") (T := T_Stack) (N := 10) hx hb hg in_Stack hown hK hP 0 rfl rfl 5 (by decide) (hg _ k223) (fun _ h9 => h9) rfl d_Stacked_keep_8 ?_
    refine lv_sipush (v := 600) hx hb d_Stacked_keep_11 (by decide) ?_
    refine lv_icmp_ge (tgt := 57) hx hb d_Stacked_keep_14 (by decide) (fun c_2 => ?_) (fun c_2 => ?_)
    · exact absurd (nI_ge' (n := 600) (by omega) (by decide) c_2) (by omega)
    · refine lv_aload_n hx hb d_Stacked_keep_17 rfl (lv_at hl 0 rfl) ?_
      refine va_get (D := (dC, dI)) (ci := 4) (v := .ref soa) (C := "RangeCoders$Stack") (T := T_Stack) (N := 10) hx hb hg in_Stack hown hK hP 0 rfl rfl 2 (by decide) (hg _ k220) (fun _ h9 => h9) rfl d_Stacked_keep_18 ?_
      refine lv_aload_n hx hb d_Stacked_keep_21 rfl (lv_at hl 0 rfl) ?_
      refine va_get (D := (dC, dI)) (ci := 4) (v := .int (nI ki)) (C := "RangeCoders$Stack") (T := T_Stack) (N := 10) hx hb hg in_Stack hown hK hP 0 rfl rfl 5 (by decide) (hg _ k223) (fun _ h9 => h9) rfl d_Stacked_keep_22 ?_
      refine lv_aload_nN hx hb d_Stacked_keep_25 rfl (lv_at hl 1 rfl) ?_
      refine va_astqN hx hb hK hP hD hS 1 2 rfl rfl (vp_in_nI hki (by decide)) d_Stacked_keep_26 (fun H locs hP hD hS => ?_)
      have hPD : my_PD (dC, dI) vwCl A [(co, Sum.inr (4, [Value.long xx, Value.long xreadX, Value.ref soa, Value.ref sna, Value.ref swa, Value.int (nI ki), Value.ref ri, Value.ref ro, Value.ref rw, Value.int xasked])), (soa, Sum.inl (cO, 600, Sum.inr (Sum.inr (Sum.inr (Sum.inr (va_up sof (nI ki).toNatClampNeg (none))))))), (sna, Sum.inl (cI, 600, Sum.inl snf)), (swa, Sum.inl (cI, 600, Sum.inl swf))] H := ⟨hP, hD⟩
      have hP := hPD.1
      have hD := hPD.2
      refine lv_aload_n hx hb d_Stacked_keep_27 rfl (lv_at hl 0 rfl) ?_
      refine va_get (D := (dC, dI)) (ci := 4) (v := .ref sna) (C := "RangeCoders$Stack") (T := T_Stack) (N := 10) hx hb hg in_Stack hown hK hP 0 rfl rfl 3 (by decide) (hg _ k221) (fun _ h9 => h9) rfl d_Stacked_keep_28 ?_
      refine lv_aload_n hx hb d_Stacked_keep_31 rfl (lv_at hl 0 rfl) ?_
      refine va_get (D := (dC, dI)) (ci := 4) (v := .int (nI ki)) (C := "RangeCoders$Stack") (T := T_Stack) (N := 10) hx hb hg in_Stack hown hK hP 0 rfl rfl 5 (by decide) (hg _ k223) (fun _ h9 => h9) rfl d_Stacked_keep_32 ?_
      refine lv_iload_n hx hb d_Stacked_keep_35 rfl (lv_at hl 2 rfl) ?_
      refine va_iast hx hb hK hP hD hS 2 0 rfl rfl (vp_in_nI hki (by decide)) d_Stacked_keep_36 (fun H locs hP hD hS => ?_)
      have hPD : my_PD (dC, dI) vwCl A [(co, Sum.inr (4, [Value.long xx, Value.long xreadX, Value.ref soa, Value.ref sna, Value.ref swa, Value.int (nI ki), Value.ref ri, Value.ref ro, Value.ref rw, Value.int xasked])), (soa, Sum.inl (cO, 600, Sum.inr (Sum.inr (Sum.inr (Sum.inr (va_up sof (nI ki).toNatClampNeg (none))))))), (sna, Sum.inl (cI, 600, Sum.inl (upd snf (nI ki).toNatClampNeg nb))), (swa, Sum.inl (cI, 600, Sum.inl swf))] H := ⟨hP, hD⟩
      have hP := hPD.1
      have hD := hPD.2
      refine lv_aload_n hx hb d_Stacked_keep_37 rfl (lv_at hl 0 rfl) ?_
      refine va_get (D := (dC, dI)) (ci := 4) (v := .ref swa) (C := "RangeCoders$Stack") (T := T_Stack) (N := 10) hx hb hg in_Stack hown hK hP 0 rfl rfl 4 (by decide) (hg _ k222) (fun _ h9 => h9) rfl d_Stacked_keep_38 ?_
      refine lv_aload_n hx hb d_Stacked_keep_41 rfl (lv_at hl 0 rfl) ?_
      refine va_get (D := (dC, dI)) (ci := 4) (v := .int (nI ki)) (C := "RangeCoders$Stack") (T := T_Stack) (N := 10) hx hb hg in_Stack hown hK hP 0 rfl rfl 5 (by decide) (hg _ k223) (fun _ h9 => h9) rfl d_Stacked_keep_42 ?_
      refine lv_iload_n hx hb d_Stacked_keep_45 rfl (lv_at hl 3 rfl) ?_
      refine va_iast hx hb hK hP hD hS 3 0 rfl rfl (vp_in_nI hki (by decide)) d_Stacked_keep_46 (fun H locs hP hD hS => ?_)
      have hPD : my_PD (dC, dI) vwCl A [(co, Sum.inr (4, [Value.long xx, Value.long xreadX, Value.ref soa, Value.ref sna, Value.ref swa, Value.int (nI ki), Value.ref ri, Value.ref ro, Value.ref rw, Value.int xasked])), (soa, Sum.inl (cO, 600, Sum.inr (Sum.inr (Sum.inr (Sum.inr (va_up sof (nI ki).toNatClampNeg (none))))))), (sna, Sum.inl (cI, 600, Sum.inl (upd snf (nI ki).toNatClampNeg nb))), (swa, Sum.inl (cI, 600, Sum.inl (upd swf (nI ki).toNatClampNeg wd)))] H := ⟨hP, hD⟩
      have hP := hPD.1
      have hD := hPD.2
      refine lv_aload_n hx hb d_Stacked_keep_47 rfl (lv_at hl 0 rfl) ?_
      refine lv_dup hx hb d_Stacked_keep_48 rfl ?_
      refine va_get (D := (dC, dI)) (ci := 4) (v := .int (nI ki)) (C := "RangeCoders$Stack") (T := T_Stack) (N := 10) hx hb hg in_Stack hown hK hP 0 rfl rfl 5 (by decide) (hg _ k223) (fun _ h9 => h9) rfl d_Stacked_keep_49 ?_
      refine lv_iconst (v := 1) hx hb d_Stacked_keep_52 (by decide) ?_
      refine lv_iadd hx hb d_Stacked_keep_53 ?_
      refine lv_topi (fun v_3 ev_3 => ?_)
      have z9 : v_3 = nI (ki + 1) := by rw [ev_3]; exact nI_1 _
      subst z9
      refine va_put (D := (dC, dI)) (ci := 4) (v := .int (nI (ki + 1))) (ty := .int) (C := "RangeCoders$Stack") (T := T_Stack) (N := 10) hx hb hg in_Stack t_Stack o_Stack n_Stack hown hK hP hD hS 0 rfl rfl 5 (by decide) (hg _ k223) (fun _ h9 => h9) rfl (o_Stack 5 (by decide)) rfl rfl (Nat.le_of_ble_eq_true rfl) d_Stacked_keep_54 (fun H locs hP hD hS => ?_)
      have hPD : my_PD (dC, dI) vwCl A [(co, Sum.inr (4, [Value.long xx, Value.long xreadX, Value.ref soa, Value.ref sna, Value.ref swa, Value.int (nI (ki + 1)), Value.ref ri, Value.ref ro, Value.ref rw, Value.int xasked])), (soa, Sum.inl (cO, 600, Sum.inr (Sum.inr (Sum.inr (Sum.inr (va_up sof (nI ki).toNatClampNeg (none))))))), (sna, Sum.inl (cI, 600, Sum.inl (upd snf (nI ki).toNatClampNeg nb))), (swa, Sum.inl (cI, 600, Sum.inl (upd swf (nI ki).toNatClampNeg wd)))] H := ⟨hP, hD⟩
      have hP := hPD.1
      have hD := hPD.2
      exact my_vret hx hb hr hlocks hQ hK hS (Nat.le_refl _) (Nat.le_refl _) (va_up sof (nI ki).toNatClampNeg (none), upd snf (nI ki).toNatClampNeg nb, upd swf (nI ki).toNatClampNeg wd) (⟨by rw [nI_clamp (by omega)], by rw [nI_clamp (by omega)], by rw [nI_clamp (by omega)]⟩) (hP.sub [0, 1, 2, 3] rfl) (hD.sub [0, 1, 2, 3] (by decide +kernel) rfl) d_Stacked_keep_57
set_option maxHeartbeats 2000000 in
set_option maxRecDepth 100000 in
theorem f_Stack_writeValue (l : Launch) (dC : Nat → ClassId) (dI : Nat → Nat → Nat) (cI cM cO : ClassId) (sz : Nat) (co : Nat) (xx : Int64) (xreadX : Int64) (soa : Nat) (sna : Nat) (swa : Nat) (ri : Nat) (ro : Nat) (rw : Nat) (xasked : Int32) (sof : Nat → Option Nat) (snf : Nat → Int32) (swf : Nat → Int32) (ki : Nat) (v : Nat) (b : Nat) (hki : ki < 600) : MetV l y_Stacked_writeValue (Cond.code y_Stacked_writeValue prog_11_method_8_code 3 none :: gw) ({ frames := 1, cells := 0, slots := 0, locals := 23 } : Room) (dC, dI) vwCl (kT cI cM cO) [Value.ref co, Value.int (nI v), Value.int (nI b)] [(co, Sum.inr (4, [Value.long xx, Value.long xreadX, Value.ref soa, Value.ref sna, Value.ref swa, Value.int (nI ki), Value.ref ri, Value.ref ro, Value.ref rw, Value.int xasked])), (soa, Sum.inl (cO, 600, Sum.inr (Sum.inr (Sum.inr (Sum.inr sof))))), (sna, Sum.inl (cI, 600, Sum.inl snf)), (swa, Sum.inl (cI, 600, Sum.inl swf))] sz (fun (u : (Nat → Option Nat) × (Nat → Int32) × (Nat → Int32)) => u.1 = va_up sof ki (none) ∧ u.2.1 = upd snf ki (nI v) ∧ u.2.2 = upd swf ki (nI b)) (fun (u : (Nat → Option Nat) × (Nat → Int32) × (Nat → Int32)) => [(co, Sum.inr (4, [Value.long xx, Value.long xreadX, Value.ref soa, Value.ref sna, Value.ref swa, Value.int (nI (ki + 1)), Value.ref ri, Value.ref ro, Value.ref rw, Value.int xasked])), (soa, Sum.inl (cO, 600, Sum.inr (Sum.inr (Sum.inr (Sum.inr u.1))))), (sna, Sum.inl (cI, 600, Sum.inl u.2.1)), (swa, Sum.inl (cI, 600, Sum.inl u.2.2))]) 0 0 := by
  refine my_ofV (cc := prog_11_method_8_code) (n := 3) (ret := none) (by decide) rfl (Nat.le_of_ble_eq_true rfl) ?_
  intro p e s m args below meth c R Q A ls H locs hx hb hr hts hown hlocks hml hnm hR hQ hA hl hP hK hN hD hS
  have hg : ∀ w ∈ gw, w.before args s = true := fun w h => hts w (List.mem_cons_of_mem _ h)
  have hown : s.vm.findClass "RangeCoders$Stacked" = some m.cls := hown
  have hl : lv_has ls 3 [(0, Value.ref co), (1, Value.int (nI v)), (2, Value.int (nI b))] := hl
  refine lv_aload_n hx hb d_Stacked_writeValue_0 rfl (lv_at hl 0 rfl) ?_
  refine lv_null hx hb d_Stacked_writeValue_1 ?_
  refine lv_iload_n hx hb d_Stacked_writeValue_2 rfl (lv_at hl 1 rfl) ?_
  refine lv_iload_n hx hb d_Stacked_writeValue_3 rfl (lv_at hl 2 rfl) ?_
  refine my_cv (wr := []) (va_runU (As := [Value.null, Value.int (nI v), Value.int (nI b)]) (rest := []) ⟨hx, hb, hml, hown, hts⟩ (f_Stack_keepN l dC dI cI cM cO H.size co xx xreadX soa sna swa ri ro rw xasked sof snf swf ki (nI v) (nI b) (by first | assumption | omega)) (va_cwU 3 hts (my_gU k534 k1286 kx2 k536 k9 k537) rfl rfl rfl rfl (by decide +kernel) ⟨by rw [hR]; exact Nat.le_of_ble_eq_true rfl, by rw [hR]; exact Nat.le_of_ble_eq_true rfl⟩) (my_preV hK hN (hP.sub [0, 1, 2, 3] rfl) (hD.sub [0, 1, 2, 3] (by decide +kernel) rfl) 0 rfl rfl) rfl rfl hl.1 rfl (lv_room (Nat.le_of_ble_eq_true rfl)) d_Stacked_writeValue_4 ⟨by rw [hR]; exact Nat.le_of_ble_eq_true rfl, by rw [hR]; exact Nat.le_of_ble_eq_true rfl⟩) hP hD hS hA [0, 1, 2, 3] [] rfl rfl (by decide +kernel) (by decide +kernel) (fun u9 H locs hw_4 hP hD hS => ?_)
  obtain ⟨sofq_4, snfq_4, swfq_4⟩ := u9
  obtain ⟨h1_4, h2_4, h3_4⟩ : sofq_4 = va_up sof ki (none) ∧ snfq_4 = upd snf ki (nI v) ∧ swfq_4 = upd swf ki (nI b) := hw_4
  have hPD : my_PD (dC, dI) vwCl A [(co, Sum.inr (4, [Value.long xx, Value.long xreadX, Value.ref soa, Value.ref sna, Value.ref swa, Value.int (nI (ki + 1)), Value.ref ri, Value.ref ro, Value.ref rw, Value.int xasked])), (soa, Sum.inl (cO, 600, Sum.inr (Sum.inr (Sum.inr (Sum.inr sofq_4))))), (sna, Sum.inl (cI, 600, Sum.inl snfq_4)), (swa, Sum.inl (cI, 600, Sum.inl swfq_4))] H := ⟨hP, hD⟩
  have hP := hPD.1
  have hD := hPD.2
  exact my_vret hx hb hr hlocks hQ hK hS (Nat.le_refl _) (Nat.le_refl _) (sofq_4, snfq_4, swfq_4) (⟨h1_4, h2_4, h3_4⟩) (hP.sub [0, 1, 2, 3] rfl) (hD.sub [0, 1, 2, 3] (by decide +kernel) rfl) d_Stacked_writeValue_7
set_option maxHeartbeats 2000000 in
set_option maxRecDepth 100000 in
theorem f_Stack_open (l : Launch) (dC : Nat → ClassId) (dI : Nat → Nat → Nat) (cI cM cO : ClassId) (sz : Nat) (co : Nat) (xx : Int64) (xreadX : Int64) (soa : Nat) (sna : Nat) (swa : Nat) (xkept : Int32) (ri : Nat) (ro : Nat) (rw : Nat) (xasked : Int32) : MetV l y_Stacked_openMessage (Cond.code y_Stacked_openMessage prog_11_method_6_code 1 none :: gw) ({ frames := 0, cells := 0, slots := 0, locals := 0 } : Room) (dC, dI) vwCl (kT cI cM cO) [Value.ref co] [(co, Sum.inr (4, [Value.long xx, Value.long xreadX, Value.ref soa, Value.ref sna, Value.ref swa, Value.int xkept, Value.ref ri, Value.ref ro, Value.ref rw, Value.int xasked]))] sz (fun (u : Unit) => True) (fun (u : Unit) => [(co, Sum.inr (4, [Value.long xx, Value.long xreadX, Value.ref soa, Value.ref sna, Value.ref swa, Value.int 0, Value.ref ri, Value.ref ro, Value.ref rw, Value.int xasked]))]) 0 0 := by
  refine my_ofV (cc := prog_11_method_6_code) (n := 1) (ret := none) (by decide) rfl (Nat.le_of_ble_eq_true rfl) ?_
  intro p e s m args below meth c R Q A ls H locs hx hb hr hts hown hlocks hml hnm hR hQ hA hl hP hK hN hD hS
  have hg : ∀ w ∈ gw, w.before args s = true := fun w h => hts w (List.mem_cons_of_mem _ h)
  have hown : s.vm.findClass "RangeCoders$Stacked" = some m.cls := hown
  have hl : lv_has ls 1 [(0, Value.ref co)] := hl
  refine lv_aload_n hx hb d_Stacked_openMessage_0 rfl (lv_at hl 0 rfl) ?_
  refine lv_iconst (v := 0) hx hb d_Stacked_openMessage_1 (by decide) ?_
  refine va_put (D := (dC, dI)) (ci := 4) (v := .int 0) (ty := .int) (C := "RangeCoders$Stack") (T := T_Stack) (N := 10) hx hb hg in_Stack t_Stack o_Stack n_Stack hown hK hP hD hS 0 rfl rfl 5 (by decide) (hg _ k223) (fun _ h9 => h9) rfl (o_Stack 5 (by decide)) rfl rfl (Nat.le_of_ble_eq_true rfl) d_Stacked_openMessage_2 (fun H locs hP hD hS => ?_)
  have hPD : my_PD (dC, dI) vwCl A [(co, Sum.inr (4, [Value.long xx, Value.long xreadX, Value.ref soa, Value.ref sna, Value.ref swa, Value.int 0, Value.ref ri, Value.ref ro, Value.ref rw, Value.int xasked]))] H := ⟨hP, hD⟩
  have hP := hPD.1
  have hD := hPD.2
  exact my_vret hx hb hr hlocks hQ hK hS (Nat.le_refl _) (Nat.le_refl _) () (trivial) (hP.sub [0] rfl) (hD.sub [0] (by decide +kernel) rfl) d_Stacked_openMessage_5
set_option maxHeartbeats 2000000 in
set_option maxRecDepth 100000 in
theorem f_Table_keep (l : Launch) (dC : Nat → ClassId) (dI : Nat → Nat → Nat) (cI cM cO : ClassId) (sz : Nat) (co : Nat) (xx : Int64) (xreadX : Int64) (soa : Nat) (sna : Nat) (swa : Nat) (ri : Nat) (ro : Nat) (rw : Nat) (xasked : Int32) (sof : Nat → Option Nat) (snf : Nat → Int32) (swf : Nat → Int32) (oo : Nat) (osg : Int32) (ofc : Int32) (oca : Nat) (opa : Nat) (n : Nat) (ocf : Nat → Int32) (opl : Nat) (opf : Nat → Int32) (osm : Int32) (ki : Nat) (nb : Int32) (wd : Int32) (hki : ki < 600) : MetV l y_Stacked_keep (Cond.code y_Stacked_keep prog_11_method_11_code 4 none :: gw) ({ frames := 0, cells := 0, slots := 0, locals := 0 } : Room) (dC, dI) vwCl (kT cI cM cO) [Value.ref co, Value.ref oo, Value.int nb, Value.int wd] [(co, Sum.inr (5, [Value.long xx, Value.long xreadX, Value.ref soa, Value.ref sna, Value.ref swa, Value.int (nI ki), Value.ref ri, Value.ref ro, Value.ref rw, Value.int xasked])), (soa, Sum.inl (cO, 600, Sum.inr (Sum.inr (Sum.inr (Sum.inr sof))))), (sna, Sum.inl (cI, 600, Sum.inl snf)), (swa, Sum.inl (cI, 600, Sum.inl swf)), (oo, Sum.inr (7, [Value.int osg, Value.int osm, Value.int ofc, Value.ref oca, Value.ref opa])), (oca, Sum.inl (cI, n, Sum.inl ocf)), (opa, Sum.inl (cI, opl, Sum.inl opf))] sz (fun (u : (Nat → Option Nat) × (Nat → Int32) × (Nat → Int32)) => u.1 = va_up sof ki (some oo) ∧ u.2.1 = upd snf ki nb ∧ u.2.2 = upd swf ki wd) (fun (u : (Nat → Option Nat) × (Nat → Int32) × (Nat → Int32)) => [(co, Sum.inr (5, [Value.long xx, Value.long xreadX, Value.ref soa, Value.ref sna, Value.ref swa, Value.int (nI (ki + 1)), Value.ref ri, Value.ref ro, Value.ref rw, Value.int xasked])), (soa, Sum.inl (cO, 600, Sum.inr (Sum.inr (Sum.inr (Sum.inr u.1))))), (sna, Sum.inl (cI, 600, Sum.inl u.2.1)), (swa, Sum.inl (cI, 600, Sum.inl u.2.2)), (oo, Sum.inr (7, [Value.int osg, Value.int osm, Value.int ofc, Value.ref oca, Value.ref opa])), (oca, Sum.inl (cI, n, Sum.inl ocf)), (opa, Sum.inl (cI, opl, Sum.inl opf))]) 0 0 := by
  refine my_ofV (cc := prog_11_method_11_code) (n := 4) (ret := none) (by decide) rfl (Nat.le_of_ble_eq_true rfl) ?_
  intro p e s m args below meth c R Q A ls H locs hx hb hr hts hown hlocks hml hnm hR hQ hA hl hP hK hN hD hS
  have hg : ∀ w ∈ gw, w.before args s = true := fun w h => hts w (List.mem_cons_of_mem _ h)
  have hown : s.vm.findClass "RangeCoders$Stacked" = some m.cls := hown
  have hl : lv_has ls 4 [(0, Value.ref co), (1, Value.ref oo), (2, Value.int nb), (3, Value.int wd)] := hl
  refine lv_aload_n hx hb d_Stacked_keep_0 rfl (lv_at hl 0 rfl) ?_
  refine va_get (D := (dC, dI)) (ci := 5) (v := .int (nI ki)) (C := "RangeCoders$Table") (T := T_Table) (N := 10) hx hb hg in_Table hown hK hP 0 rfl rfl 5 (by decide) (hg _ k223) (fun _ h9 => h9) rfl d_Stacked_keep_1 ?_
  refine lv_if_lt (tgt := 57) hx hb d_Stacked_keep_4 (by decide) (fun c_1 => ?_) (fun c_1 => ?_)
  · exact absurd c_1 (nI_pos (by omega))
  · refine lv_aload_n hx hb d_Stacked_keep_7 rfl (lv_at hl 0 rfl) ?_
    refine va_get (D := (dC, dI)) (ci := 5) (v := .int (nI ki)) (C := "RangeCoders$Table") (T := T_Table) (N := 10) hx hb hg in_Table hown hK hP 0 rfl rfl 5 (by decide) (hg _ k223) (fun _ h9 => h9) rfl d_Stacked_keep_8 ?_
    refine lv_sipush (v := 600) hx hb d_Stacked_keep_11 (by decide) ?_
    refine lv_icmp_ge (tgt := 57) hx hb d_Stacked_keep_14 (by decide) (fun c_2 => ?_) (fun c_2 => ?_)
    · exact absurd (nI_ge' (n := 600) (by omega) (by decide) c_2) (by omega)
    · refine lv_aload_n hx hb d_Stacked_keep_17 rfl (lv_at hl 0 rfl) ?_
      refine va_get (D := (dC, dI)) (ci := 5) (v := .ref soa) (C := "RangeCoders$Table") (T := T_Table) (N := 10) hx hb hg in_Table hown hK hP 0 rfl rfl 2 (by decide) (hg _ k220) (fun _ h9 => h9) rfl d_Stacked_keep_18 ?_
      refine lv_aload_n hx hb d_Stacked_keep_21 rfl (lv_at hl 0 rfl) ?_
      refine va_get (D := (dC, dI)) (ci := 5) (v := .int (nI ki)) (C := "RangeCoders$Table") (T := T_Table) (N := 10) hx hb hg in_Table hown hK hP 0 rfl rfl 5 (by decide) (hg _ k223) (fun _ h9 => h9) rfl d_Stacked_keep_22 ?_
      refine lv_aload_n hx hb d_Stacked_keep_25 rfl (lv_at hl 1 rfl) ?_
      refine va_astq hx hb hK hP hD hS 1 2 4 7 rfl rfl rfl rfl (vp_in_nI hki (by decide)) d_Stacked_keep_26 (fun H locs hP hD hS => ?_)
      have hPD : my_PD (dC, dI) vwCl A [(co, Sum.inr (5, [Value.long xx, Value.long xreadX, Value.ref soa, Value.ref sna, Value.ref swa, Value.int (nI ki), Value.ref ri, Value.ref ro, Value.ref rw, Value.int xasked])), (soa, Sum.inl (cO, 600, Sum.inr (Sum.inr (Sum.inr (Sum.inr (va_up sof (nI ki).toNatClampNeg (some oo))))))), (sna, Sum.inl (cI, 600, Sum.inl snf)), (swa, Sum.inl (cI, 600, Sum.inl swf)), (oo, Sum.inr (7, [Value.int osg, Value.int osm, Value.int ofc, Value.ref oca, Value.ref opa])), (oca, Sum.inl (cI, n, Sum.inl ocf)), (opa, Sum.inl (cI, opl, Sum.inl opf))] H := ⟨hP, hD⟩
      have hP := hPD.1
      have hD := hPD.2
      refine lv_aload_n hx hb d_Stacked_keep_27 rfl (lv_at hl 0 rfl) ?_
      refine va_get (D := (dC, dI)) (ci := 5) (v := .ref sna) (C := "RangeCoders$Table") (T := T_Table) (N := 10) hx hb hg in_Table hown hK hP 0 rfl rfl 3 (by decide) (hg _ k221) (fun _ h9 => h9) rfl d_Stacked_keep_28 ?_
      refine lv_aload_n hx hb d_Stacked_keep_31 rfl (lv_at hl 0 rfl) ?_
      refine va_get (D := (dC, dI)) (ci := 5) (v := .int (nI ki)) (C := "RangeCoders$Table") (T := T_Table) (N := 10) hx hb hg in_Table hown hK hP 0 rfl rfl 5 (by decide) (hg _ k223) (fun _ h9 => h9) rfl d_Stacked_keep_32 ?_
      refine lv_iload_n hx hb d_Stacked_keep_35 rfl (lv_at hl 2 rfl) ?_
      refine va_iast hx hb hK hP hD hS 2 0 rfl rfl (vp_in_nI hki (by decide)) d_Stacked_keep_36 (fun H locs hP hD hS => ?_)
      have hPD : my_PD (dC, dI) vwCl A [(co, Sum.inr (5, [Value.long xx, Value.long xreadX, Value.ref soa, Value.ref sna, Value.ref swa, Value.int (nI ki), Value.ref ri, Value.ref ro, Value.ref rw, Value.int xasked])), (soa, Sum.inl (cO, 600, Sum.inr (Sum.inr (Sum.inr (Sum.inr (va_up sof (nI ki).toNatClampNeg (some oo))))))), (sna, Sum.inl (cI, 600, Sum.inl (upd snf (nI ki).toNatClampNeg nb))), (swa, Sum.inl (cI, 600, Sum.inl swf)), (oo, Sum.inr (7, [Value.int osg, Value.int osm, Value.int ofc, Value.ref oca, Value.ref opa])), (oca, Sum.inl (cI, n, Sum.inl ocf)), (opa, Sum.inl (cI, opl, Sum.inl opf))] H := ⟨hP, hD⟩
      have hP := hPD.1
      have hD := hPD.2
      refine lv_aload_n hx hb d_Stacked_keep_37 rfl (lv_at hl 0 rfl) ?_
      refine va_get (D := (dC, dI)) (ci := 5) (v := .ref swa) (C := "RangeCoders$Table") (T := T_Table) (N := 10) hx hb hg in_Table hown hK hP 0 rfl rfl 4 (by decide) (hg _ k222) (fun _ h9 => h9) rfl d_Stacked_keep_38 ?_
      refine lv_aload_n hx hb d_Stacked_keep_41 rfl (lv_at hl 0 rfl) ?_
      refine va_get (D := (dC, dI)) (ci := 5) (v := .int (nI ki)) (C := "RangeCoders$Table") (T := T_Table) (N := 10) hx hb hg in_Table hown hK hP 0 rfl rfl 5 (by decide) (hg _ k223) (fun _ h9 => h9) rfl d_Stacked_keep_42 ?_
      refine lv_iload_n hx hb d_Stacked_keep_45 rfl (lv_at hl 3 rfl) ?_
      refine va_iast hx hb hK hP hD hS 3 0 rfl rfl (vp_in_nI hki (by decide)) d_Stacked_keep_46 (fun H locs hP hD hS => ?_)
      have hPD : my_PD (dC, dI) vwCl A [(co, Sum.inr (5, [Value.long xx, Value.long xreadX, Value.ref soa, Value.ref sna, Value.ref swa, Value.int (nI ki), Value.ref ri, Value.ref ro, Value.ref rw, Value.int xasked])), (soa, Sum.inl (cO, 600, Sum.inr (Sum.inr (Sum.inr (Sum.inr (va_up sof (nI ki).toNatClampNeg (some oo))))))), (sna, Sum.inl (cI, 600, Sum.inl (upd snf (nI ki).toNatClampNeg nb))), (swa, Sum.inl (cI, 600, Sum.inl (upd swf (nI ki).toNatClampNeg wd))), (oo, Sum.inr (7, [Value.int osg, Value.int osm, Value.int ofc, Value.ref oca, Value.ref opa])), (oca, Sum.inl (cI, n, Sum.inl ocf)), (opa, Sum.inl (cI, opl, Sum.inl opf))] H := ⟨hP, hD⟩
      have hP := hPD.1
      have hD := hPD.2
      refine lv_aload_n hx hb d_Stacked_keep_47 rfl (lv_at hl 0 rfl) ?_
      refine lv_dup hx hb d_Stacked_keep_48 rfl ?_
      refine va_get (D := (dC, dI)) (ci := 5) (v := .int (nI ki)) (C := "RangeCoders$Table") (T := T_Table) (N := 10) hx hb hg in_Table hown hK hP 0 rfl rfl 5 (by decide) (hg _ k223) (fun _ h9 => h9) rfl d_Stacked_keep_49 ?_
      refine lv_iconst (v := 1) hx hb d_Stacked_keep_52 (by decide) ?_
      refine lv_iadd hx hb d_Stacked_keep_53 ?_
      refine lv_topi (fun v_3 ev_3 => ?_)
      have z9 : v_3 = nI (ki + 1) := by rw [ev_3]; exact nI_1 _
      subst z9
      refine va_put (D := (dC, dI)) (ci := 5) (v := .int (nI (ki + 1))) (ty := .int) (C := "RangeCoders$Table") (T := T_Table) (N := 10) hx hb hg in_Table t_Table o_Table n_Table hown hK hP hD hS 0 rfl rfl 5 (by decide) (hg _ k223) (fun _ h9 => h9) rfl (o_Table 5 (by decide)) rfl rfl (Nat.le_of_ble_eq_true rfl) d_Stacked_keep_54 (fun H locs hP hD hS => ?_)
      have hPD : my_PD (dC, dI) vwCl A [(co, Sum.inr (5, [Value.long xx, Value.long xreadX, Value.ref soa, Value.ref sna, Value.ref swa, Value.int (nI (ki + 1)), Value.ref ri, Value.ref ro, Value.ref rw, Value.int xasked])), (soa, Sum.inl (cO, 600, Sum.inr (Sum.inr (Sum.inr (Sum.inr (va_up sof (nI ki).toNatClampNeg (some oo))))))), (sna, Sum.inl (cI, 600, Sum.inl (upd snf (nI ki).toNatClampNeg nb))), (swa, Sum.inl (cI, 600, Sum.inl (upd swf (nI ki).toNatClampNeg wd))), (oo, Sum.inr (7, [Value.int osg, Value.int osm, Value.int ofc, Value.ref oca, Value.ref opa])), (oca, Sum.inl (cI, n, Sum.inl ocf)), (opa, Sum.inl (cI, opl, Sum.inl opf))] H := ⟨hP, hD⟩
      have hP := hPD.1
      have hD := hPD.2
      exact my_vret hx hb hr hlocks hQ hK hS (Nat.le_refl _) (Nat.le_refl _) (va_up sof (nI ki).toNatClampNeg (some oo), upd snf (nI ki).toNatClampNeg nb, upd swf (nI ki).toNatClampNeg wd) (⟨by rw [nI_clamp (by omega)], by rw [nI_clamp (by omega)], by rw [nI_clamp (by omega)]⟩) (hP.sub [0, 1, 2, 3, 4, 5, 6] rfl) (hD.sub [0, 1, 2, 3, 4, 5, 6] (by decide +kernel) rfl) d_Stacked_keep_57
set_option maxHeartbeats 2000000 in
set_option maxRecDepth 100000 in
theorem f_Table_writeSign (l : Launch) (dC : Nat → ClassId) (dI : Nat → Nat → Nat) (cI cM cO : ClassId) (sz : Nat) (co : Nat) (xx : Int64) (xreadX : Int64) (soa : Nat) (sna : Nat) (swa : Nat) (ri : Nat) (ro : Nat) (rw : Nat) (xasked : Int32) (sof : Nat → Option Nat) (snf : Nat → Int32) (swf : Nat → Int32) (oo : Nat) (osg : Int32) (ofc : Int32) (oca : Nat) (opa : Nat) (n : Nat) (ocf : Nat → Int32) (opl : Nat) (opf : Nat → Int32) (osm : Int32) (ki : Nat) (t : Nat) (hki : ki < 600) : MetV l y_Stacked_writeSign (Cond.code y_Stacked_writeSign prog_11_method_7_code 3 none :: gw) ({ frames := 1, cells := 0, slots := 0, locals := 23 } : Room) (dC, dI) vwCl (kT cI cM cO) [Value.ref co, Value.ref oo, Value.int (nI t)] [(co, Sum.inr (5, [Value.long xx, Value.long xreadX, Value.ref soa, Value.ref sna, Value.ref swa, Value.int (nI ki), Value.ref ri, Value.ref ro, Value.ref rw, Value.int xasked])), (soa, Sum.inl (cO, 600, Sum.inr (Sum.inr (Sum.inr (Sum.inr sof))))), (sna, Sum.inl (cI, 600, Sum.inl snf)), (swa, Sum.inl (cI, 600, Sum.inl swf)), (oo, Sum.inr (7, [Value.int osg, Value.int osm, Value.int ofc, Value.ref oca, Value.ref opa])), (oca, Sum.inl (cI, n, Sum.inl ocf)), (opa, Sum.inl (cI, opl, Sum.inl opf))] sz (fun (u : (Nat → Option Nat) × (Nat → Int32) × (Nat → Int32)) => u.1 = va_up sof ki (some oo) ∧ u.2.1 = upd snf ki (nI t) ∧ u.2.2 = upd swf ki 0) (fun (u : (Nat → Option Nat) × (Nat → Int32) × (Nat → Int32)) => [(co, Sum.inr (5, [Value.long xx, Value.long xreadX, Value.ref soa, Value.ref sna, Value.ref swa, Value.int (nI (ki + 1)), Value.ref ri, Value.ref ro, Value.ref rw, Value.int xasked])), (soa, Sum.inl (cO, 600, Sum.inr (Sum.inr (Sum.inr (Sum.inr u.1))))), (sna, Sum.inl (cI, 600, Sum.inl u.2.1)), (swa, Sum.inl (cI, 600, Sum.inl u.2.2)), (oo, Sum.inr (7, [Value.int osg, Value.int osm, Value.int ofc, Value.ref oca, Value.ref opa])), (oca, Sum.inl (cI, n, Sum.inl ocf)), (opa, Sum.inl (cI, opl, Sum.inl opf))]) 0 0 := by
  refine my_ofV (cc := prog_11_method_7_code) (n := 3) (ret := none) (by decide) rfl (Nat.le_of_ble_eq_true rfl) ?_
  intro p e s m args below meth c R Q A ls H locs hx hb hr hts hown hlocks hml hnm hR hQ hA hl hP hK hN hD hS
  have hg : ∀ w ∈ gw, w.before args s = true := fun w h => hts w (List.mem_cons_of_mem _ h)
  have hown : s.vm.findClass "RangeCoders$Stacked" = some m.cls := hown
  have hl : lv_has ls 3 [(0, Value.ref co), (1, Value.ref oo), (2, Value.int (nI t))] := hl
  refine lv_aload_n hx hb d_Stacked_writeSign_0 rfl (lv_at hl 0 rfl) ?_
  refine lv_aload_n hx hb d_Stacked_writeSign_1 rfl (lv_at hl 1 rfl) ?_
  refine lv_iload_n hx hb d_Stacked_writeSign_2 rfl (lv_at hl 2 rfl) ?_
  refine lv_iconst (v := 0) hx hb d_Stacked_writeSign_3 (by decide) ?_
  refine my_cv (wr := []) (va_runU (As := [Value.ref oo, Value.int (nI t), Value.int 0]) (rest := []) ⟨hx, hb, hml, hown, hts⟩ (f_Table_keep l dC dI cI cM cO H.size co xx xreadX soa sna swa ri ro rw xasked sof snf swf oo osg ofc oca opa n ocf opl opf osm ki (nI t) 0 (by first | assumption | omega)) (va_cwU 3 hts (my_gU k534 k1286 kx3 k536 k9 k537) rfl rfl rfl rfl (by decide +kernel) ⟨by rw [hR]; exact Nat.le_of_ble_eq_true rfl, by rw [hR]; exact Nat.le_of_ble_eq_true rfl⟩) (my_preV hK hN (hP.sub [0, 1, 2, 3, 4, 5, 6] rfl) (hD.sub [0, 1, 2, 3, 4, 5, 6] (by decide +kernel) rfl) 0 rfl rfl) rfl rfl hl.1 rfl (lv_room (Nat.le_of_ble_eq_true rfl)) d_Stacked_writeSign_4 ⟨by rw [hR]; exact Nat.le_of_ble_eq_true rfl, by rw [hR]; exact Nat.le_of_ble_eq_true rfl⟩) hP hD hS hA [0, 1, 2, 3, 4, 5, 6] [] rfl rfl (by decide +kernel) (by decide +kernel) (fun u9 H locs hw_4 hP hD hS => ?_)
  obtain ⟨sofq_4, snfq_4, swfq_4⟩ := u9
  obtain ⟨h1_4, h2_4, h3_4⟩ : sofq_4 = va_up sof ki (some oo) ∧ snfq_4 = upd snf ki (nI t) ∧ swfq_4 = upd swf ki 0 := hw_4
  have hPD : my_PD (dC, dI) vwCl A [(co, Sum.inr (5, [Value.long xx, Value.long xreadX, Value.ref soa, Value.ref sna, Value.ref swa, Value.int (nI (ki + 1)), Value.ref ri, Value.ref ro, Value.ref rw, Value.int xasked])), (soa, Sum.inl (cO, 600, Sum.inr (Sum.inr (Sum.inr (Sum.inr sofq_4))))), (sna, Sum.inl (cI, 600, Sum.inl snfq_4)), (swa, Sum.inl (cI, 600, Sum.inl swfq_4)), (oo, Sum.inr (7, [Value.int osg, Value.int osm, Value.int ofc, Value.ref oca, Value.ref opa])), (oca, Sum.inl (cI, n, Sum.inl ocf)), (opa, Sum.inl (cI, opl, Sum.inl opf))] H := ⟨hP, hD⟩
  have hP := hPD.1
  have hD := hPD.2
  exact my_vret hx hb hr hlocks hQ hK hS (Nat.le_refl _) (Nat.le_refl _) (sofq_4, snfq_4, swfq_4) (⟨h1_4, h2_4, h3_4⟩) (hP.sub [0, 1, 2, 3, 4, 5, 6] rfl) (hD.sub [0, 1, 2, 3, 4, 5, 6] (by decide +kernel) rfl) d_Stacked_writeSign_7
set_option maxHeartbeats 2000000 in
set_option maxRecDepth 100000 in
theorem f_Table_keepN (l : Launch) (dC : Nat → ClassId) (dI : Nat → Nat → Nat) (cI cM cO : ClassId) (sz : Nat) (co : Nat) (xx : Int64) (xreadX : Int64) (soa : Nat) (sna : Nat) (swa : Nat) (ri : Nat) (ro : Nat) (rw : Nat) (xasked : Int32) (sof : Nat → Option Nat) (snf : Nat → Int32) (swf : Nat → Int32) (ki : Nat) (nb : Int32) (wd : Int32) (hki : ki < 600) : MetV l y_Stacked_keep (Cond.code y_Stacked_keep prog_11_method_11_code 4 none :: gw) ({ frames := 0, cells := 0, slots := 0, locals := 0 } : Room) (dC, dI) vwCl (kT cI cM cO) [Value.ref co, Value.null, Value.int nb, Value.int wd] [(co, Sum.inr (5, [Value.long xx, Value.long xreadX, Value.ref soa, Value.ref sna, Value.ref swa, Value.int (nI ki), Value.ref ri, Value.ref ro, Value.ref rw, Value.int xasked])), (soa, Sum.inl (cO, 600, Sum.inr (Sum.inr (Sum.inr (Sum.inr sof))))), (sna, Sum.inl (cI, 600, Sum.inl snf)), (swa, Sum.inl (cI, 600, Sum.inl swf))] sz (fun (u : (Nat → Option Nat) × (Nat → Int32) × (Nat → Int32)) => u.1 = va_up sof ki (none) ∧ u.2.1 = upd snf ki nb ∧ u.2.2 = upd swf ki wd) (fun (u : (Nat → Option Nat) × (Nat → Int32) × (Nat → Int32)) => [(co, Sum.inr (5, [Value.long xx, Value.long xreadX, Value.ref soa, Value.ref sna, Value.ref swa, Value.int (nI (ki + 1)), Value.ref ri, Value.ref ro, Value.ref rw, Value.int xasked])), (soa, Sum.inl (cO, 600, Sum.inr (Sum.inr (Sum.inr (Sum.inr u.1))))), (sna, Sum.inl (cI, 600, Sum.inl u.2.1)), (swa, Sum.inl (cI, 600, Sum.inl u.2.2))]) 0 0 := by
  refine my_ofV (cc := prog_11_method_11_code) (n := 4) (ret := none) (by decide) rfl (Nat.le_of_ble_eq_true rfl) ?_
  intro p e s m args below meth c R Q A ls H locs hx hb hr hts hown hlocks hml hnm hR hQ hA hl hP hK hN hD hS
  have hg : ∀ w ∈ gw, w.before args s = true := fun w h => hts w (List.mem_cons_of_mem _ h)
  have hown : s.vm.findClass "RangeCoders$Stacked" = some m.cls := hown
  have hl : lv_has ls 4 [(0, Value.ref co), (1, Value.null), (2, Value.int nb), (3, Value.int wd)] := hl
  refine lv_aload_n hx hb d_Stacked_keep_0 rfl (lv_at hl 0 rfl) ?_
  refine va_get (D := (dC, dI)) (ci := 5) (v := .int (nI ki)) (C := "RangeCoders$Table") (T := T_Table) (N := 10) hx hb hg in_Table hown hK hP 0 rfl rfl 5 (by decide) (hg _ k223) (fun _ h9 => h9) rfl d_Stacked_keep_1 ?_
  refine lv_if_lt (tgt := 57) hx hb d_Stacked_keep_4 (by decide) (fun c_1 => ?_) (fun c_1 => ?_)
  · exact absurd c_1 (nI_pos (by omega))
  · refine lv_aload_n hx hb d_Stacked_keep_7 rfl (lv_at hl 0 rfl) ?_
    refine va_get (D := (dC, dI)) (ci := 5) (v := .int (nI ki)) (C := "RangeCoders$Table") (T := T_Table) (N := 10) hx hb hg in_Table hown hK hP 0 rfl rfl 5 (by decide) (hg _ k223) (fun _ h9 => h9) rfl d_Stacked_keep_8 ?_
    refine lv_sipush (v := 600) hx hb d_Stacked_keep_11 (by decide) ?_
    refine lv_icmp_ge (tgt := 57) hx hb d_Stacked_keep_14 (by decide) (fun c_2 => ?_) (fun c_2 => ?_)
    · exact absurd (nI_ge' (n := 600) (by omega) (by decide) c_2) (by omega)
    · refine lv_aload_n hx hb d_Stacked_keep_17 rfl (lv_at hl 0 rfl) ?_
      refine va_get (D := (dC, dI)) (ci := 5) (v := .ref soa) (C := "RangeCoders$Table") (T := T_Table) (N := 10) hx hb hg in_Table hown hK hP 0 rfl rfl 2 (by decide) (hg _ k220) (fun _ h9 => h9) rfl d_Stacked_keep_18 ?_
      refine lv_aload_n hx hb d_Stacked_keep_21 rfl (lv_at hl 0 rfl) ?_
      refine va_get (D := (dC, dI)) (ci := 5) (v := .int (nI ki)) (C := "RangeCoders$Table") (T := T_Table) (N := 10) hx hb hg in_Table hown hK hP 0 rfl rfl 5 (by decide) (hg _ k223) (fun _ h9 => h9) rfl d_Stacked_keep_22 ?_
      refine lv_aload_nN hx hb d_Stacked_keep_25 rfl (lv_at hl 1 rfl) ?_
      refine va_astqN hx hb hK hP hD hS 1 2 rfl rfl (vp_in_nI hki (by decide)) d_Stacked_keep_26 (fun H locs hP hD hS => ?_)
      have hPD : my_PD (dC, dI) vwCl A [(co, Sum.inr (5, [Value.long xx, Value.long xreadX, Value.ref soa, Value.ref sna, Value.ref swa, Value.int (nI ki), Value.ref ri, Value.ref ro, Value.ref rw, Value.int xasked])), (soa, Sum.inl (cO, 600, Sum.inr (Sum.inr (Sum.inr (Sum.inr (va_up sof (nI ki).toNatClampNeg (none))))))), (sna, Sum.inl (cI, 600, Sum.inl snf)), (swa, Sum.inl (cI, 600, Sum.inl swf))] H := ⟨hP, hD⟩
      have hP := hPD.1
      have hD := hPD.2
      refine lv_aload_n hx hb d_Stacked_keep_27 rfl (lv_at hl 0 rfl) ?_
      refine va_get (D := (dC, dI)) (ci := 5) (v := .ref sna) (C := "RangeCoders$Table") (T := T_Table) (N := 10) hx hb hg in_Table hown hK hP 0 rfl rfl 3 (by decide) (hg _ k221) (fun _ h9 => h9) rfl d_Stacked_keep_28 ?_
      refine lv_aload_n hx hb d_Stacked_keep_31 rfl (lv_at hl 0 rfl) ?_
      refine va_get (D := (dC, dI)) (ci := 5) (v := .int (nI ki)) (C := "RangeCoders$Table") (T := T_Table) (N := 10) hx hb hg in_Table hown hK hP 0 rfl rfl 5 (by decide) (hg _ k223) (fun _ h9 => h9) rfl d_Stacked_keep_32 ?_
      refine lv_iload_n hx hb d_Stacked_keep_35 rfl (lv_at hl 2 rfl) ?_
      refine va_iast hx hb hK hP hD hS 2 0 rfl rfl (vp_in_nI hki (by decide)) d_Stacked_keep_36 (fun H locs hP hD hS => ?_)
      have hPD : my_PD (dC, dI) vwCl A [(co, Sum.inr (5, [Value.long xx, Value.long xreadX, Value.ref soa, Value.ref sna, Value.ref swa, Value.int (nI ki), Value.ref ri, Value.ref ro, Value.ref rw, Value.int xasked])), (soa, Sum.inl (cO, 600, Sum.inr (Sum.inr (Sum.inr (Sum.inr (va_up sof (nI ki).toNatClampNeg (none))))))), (sna, Sum.inl (cI, 600, Sum.inl (upd snf (nI ki).toNatClampNeg nb))), (swa, Sum.inl (cI, 600, Sum.inl swf))] H := ⟨hP, hD⟩
      have hP := hPD.1
      have hD := hPD.2
      refine lv_aload_n hx hb d_Stacked_keep_37 rfl (lv_at hl 0 rfl) ?_
      refine va_get (D := (dC, dI)) (ci := 5) (v := .ref swa) (C := "RangeCoders$Table") (T := T_Table) (N := 10) hx hb hg in_Table hown hK hP 0 rfl rfl 4 (by decide) (hg _ k222) (fun _ h9 => h9) rfl d_Stacked_keep_38 ?_
      refine lv_aload_n hx hb d_Stacked_keep_41 rfl (lv_at hl 0 rfl) ?_
      refine va_get (D := (dC, dI)) (ci := 5) (v := .int (nI ki)) (C := "RangeCoders$Table") (T := T_Table) (N := 10) hx hb hg in_Table hown hK hP 0 rfl rfl 5 (by decide) (hg _ k223) (fun _ h9 => h9) rfl d_Stacked_keep_42 ?_
      refine lv_iload_n hx hb d_Stacked_keep_45 rfl (lv_at hl 3 rfl) ?_
      refine va_iast hx hb hK hP hD hS 3 0 rfl rfl (vp_in_nI hki (by decide)) d_Stacked_keep_46 (fun H locs hP hD hS => ?_)
      have hPD : my_PD (dC, dI) vwCl A [(co, Sum.inr (5, [Value.long xx, Value.long xreadX, Value.ref soa, Value.ref sna, Value.ref swa, Value.int (nI ki), Value.ref ri, Value.ref ro, Value.ref rw, Value.int xasked])), (soa, Sum.inl (cO, 600, Sum.inr (Sum.inr (Sum.inr (Sum.inr (va_up sof (nI ki).toNatClampNeg (none))))))), (sna, Sum.inl (cI, 600, Sum.inl (upd snf (nI ki).toNatClampNeg nb))), (swa, Sum.inl (cI, 600, Sum.inl (upd swf (nI ki).toNatClampNeg wd)))] H := ⟨hP, hD⟩
      have hP := hPD.1
      have hD := hPD.2
      refine lv_aload_n hx hb d_Stacked_keep_47 rfl (lv_at hl 0 rfl) ?_
      refine lv_dup hx hb d_Stacked_keep_48 rfl ?_
      refine va_get (D := (dC, dI)) (ci := 5) (v := .int (nI ki)) (C := "RangeCoders$Table") (T := T_Table) (N := 10) hx hb hg in_Table hown hK hP 0 rfl rfl 5 (by decide) (hg _ k223) (fun _ h9 => h9) rfl d_Stacked_keep_49 ?_
      refine lv_iconst (v := 1) hx hb d_Stacked_keep_52 (by decide) ?_
      refine lv_iadd hx hb d_Stacked_keep_53 ?_
      refine lv_topi (fun v_3 ev_3 => ?_)
      have z9 : v_3 = nI (ki + 1) := by rw [ev_3]; exact nI_1 _
      subst z9
      refine va_put (D := (dC, dI)) (ci := 5) (v := .int (nI (ki + 1))) (ty := .int) (C := "RangeCoders$Table") (T := T_Table) (N := 10) hx hb hg in_Table t_Table o_Table n_Table hown hK hP hD hS 0 rfl rfl 5 (by decide) (hg _ k223) (fun _ h9 => h9) rfl (o_Table 5 (by decide)) rfl rfl (Nat.le_of_ble_eq_true rfl) d_Stacked_keep_54 (fun H locs hP hD hS => ?_)
      have hPD : my_PD (dC, dI) vwCl A [(co, Sum.inr (5, [Value.long xx, Value.long xreadX, Value.ref soa, Value.ref sna, Value.ref swa, Value.int (nI (ki + 1)), Value.ref ri, Value.ref ro, Value.ref rw, Value.int xasked])), (soa, Sum.inl (cO, 600, Sum.inr (Sum.inr (Sum.inr (Sum.inr (va_up sof (nI ki).toNatClampNeg (none))))))), (sna, Sum.inl (cI, 600, Sum.inl (upd snf (nI ki).toNatClampNeg nb))), (swa, Sum.inl (cI, 600, Sum.inl (upd swf (nI ki).toNatClampNeg wd)))] H := ⟨hP, hD⟩
      have hP := hPD.1
      have hD := hPD.2
      exact my_vret hx hb hr hlocks hQ hK hS (Nat.le_refl _) (Nat.le_refl _) (va_up sof (nI ki).toNatClampNeg (none), upd snf (nI ki).toNatClampNeg nb, upd swf (nI ki).toNatClampNeg wd) (⟨by rw [nI_clamp (by omega)], by rw [nI_clamp (by omega)], by rw [nI_clamp (by omega)]⟩) (hP.sub [0, 1, 2, 3] rfl) (hD.sub [0, 1, 2, 3] (by decide +kernel) rfl) d_Stacked_keep_57
set_option maxHeartbeats 2000000 in
set_option maxRecDepth 100000 in
theorem f_Table_writeValue (l : Launch) (dC : Nat → ClassId) (dI : Nat → Nat → Nat) (cI cM cO : ClassId) (sz : Nat) (co : Nat) (xx : Int64) (xreadX : Int64) (soa : Nat) (sna : Nat) (swa : Nat) (ri : Nat) (ro : Nat) (rw : Nat) (xasked : Int32) (sof : Nat → Option Nat) (snf : Nat → Int32) (swf : Nat → Int32) (ki : Nat) (v : Nat) (b : Nat) (hki : ki < 600) : MetV l y_Stacked_writeValue (Cond.code y_Stacked_writeValue prog_11_method_8_code 3 none :: gw) ({ frames := 1, cells := 0, slots := 0, locals := 23 } : Room) (dC, dI) vwCl (kT cI cM cO) [Value.ref co, Value.int (nI v), Value.int (nI b)] [(co, Sum.inr (5, [Value.long xx, Value.long xreadX, Value.ref soa, Value.ref sna, Value.ref swa, Value.int (nI ki), Value.ref ri, Value.ref ro, Value.ref rw, Value.int xasked])), (soa, Sum.inl (cO, 600, Sum.inr (Sum.inr (Sum.inr (Sum.inr sof))))), (sna, Sum.inl (cI, 600, Sum.inl snf)), (swa, Sum.inl (cI, 600, Sum.inl swf))] sz (fun (u : (Nat → Option Nat) × (Nat → Int32) × (Nat → Int32)) => u.1 = va_up sof ki (none) ∧ u.2.1 = upd snf ki (nI v) ∧ u.2.2 = upd swf ki (nI b)) (fun (u : (Nat → Option Nat) × (Nat → Int32) × (Nat → Int32)) => [(co, Sum.inr (5, [Value.long xx, Value.long xreadX, Value.ref soa, Value.ref sna, Value.ref swa, Value.int (nI (ki + 1)), Value.ref ri, Value.ref ro, Value.ref rw, Value.int xasked])), (soa, Sum.inl (cO, 600, Sum.inr (Sum.inr (Sum.inr (Sum.inr u.1))))), (sna, Sum.inl (cI, 600, Sum.inl u.2.1)), (swa, Sum.inl (cI, 600, Sum.inl u.2.2))]) 0 0 := by
  refine my_ofV (cc := prog_11_method_8_code) (n := 3) (ret := none) (by decide) rfl (Nat.le_of_ble_eq_true rfl) ?_
  intro p e s m args below meth c R Q A ls H locs hx hb hr hts hown hlocks hml hnm hR hQ hA hl hP hK hN hD hS
  have hg : ∀ w ∈ gw, w.before args s = true := fun w h => hts w (List.mem_cons_of_mem _ h)
  have hown : s.vm.findClass "RangeCoders$Stacked" = some m.cls := hown
  have hl : lv_has ls 3 [(0, Value.ref co), (1, Value.int (nI v)), (2, Value.int (nI b))] := hl
  refine lv_aload_n hx hb d_Stacked_writeValue_0 rfl (lv_at hl 0 rfl) ?_
  refine lv_null hx hb d_Stacked_writeValue_1 ?_
  refine lv_iload_n hx hb d_Stacked_writeValue_2 rfl (lv_at hl 1 rfl) ?_
  refine lv_iload_n hx hb d_Stacked_writeValue_3 rfl (lv_at hl 2 rfl) ?_
  refine my_cv (wr := []) (va_runU (As := [Value.null, Value.int (nI v), Value.int (nI b)]) (rest := []) ⟨hx, hb, hml, hown, hts⟩ (f_Table_keepN l dC dI cI cM cO H.size co xx xreadX soa sna swa ri ro rw xasked sof snf swf ki (nI v) (nI b) (by first | assumption | omega)) (va_cwU 3 hts (my_gU k534 k1286 kx3 k536 k9 k537) rfl rfl rfl rfl (by decide +kernel) ⟨by rw [hR]; exact Nat.le_of_ble_eq_true rfl, by rw [hR]; exact Nat.le_of_ble_eq_true rfl⟩) (my_preV hK hN (hP.sub [0, 1, 2, 3] rfl) (hD.sub [0, 1, 2, 3] (by decide +kernel) rfl) 0 rfl rfl) rfl rfl hl.1 rfl (lv_room (Nat.le_of_ble_eq_true rfl)) d_Stacked_writeValue_4 ⟨by rw [hR]; exact Nat.le_of_ble_eq_true rfl, by rw [hR]; exact Nat.le_of_ble_eq_true rfl⟩) hP hD hS hA [0, 1, 2, 3] [] rfl rfl (by decide +kernel) (by decide +kernel) (fun u9 H locs hw_4 hP hD hS => ?_)
  obtain ⟨sofq_4, snfq_4, swfq_4⟩ := u9
  obtain ⟨h1_4, h2_4, h3_4⟩ : sofq_4 = va_up sof ki (none) ∧ snfq_4 = upd snf ki (nI v) ∧ swfq_4 = upd swf ki (nI b) := hw_4
  have hPD : my_PD (dC, dI) vwCl A [(co, Sum.inr (5, [Value.long xx, Value.long xreadX, Value.ref soa, Value.ref sna, Value.ref swa, Value.int (nI (ki + 1)), Value.ref ri, Value.ref ro, Value.ref rw, Value.int xasked])), (soa, Sum.inl (cO, 600, Sum.inr (Sum.inr (Sum.inr (Sum.inr sofq_4))))), (sna, Sum.inl (cI, 600, Sum.inl snfq_4)), (swa, Sum.inl (cI, 600, Sum.inl swfq_4))] H := ⟨hP, hD⟩
  have hP := hPD.1
  have hD := hPD.2
  exact my_vret hx hb hr hlocks hQ hK hS (Nat.le_refl _) (Nat.le_refl _) (sofq_4, snfq_4, swfq_4) (⟨h1_4, h2_4, h3_4⟩) (hP.sub [0, 1, 2, 3] rfl) (hD.sub [0, 1, 2, 3] (by decide +kernel) rfl) d_Stacked_writeValue_7
set_option maxHeartbeats 2000000 in
set_option maxRecDepth 100000 in
theorem f_Table_open (l : Launch) (dC : Nat → ClassId) (dI : Nat → Nat → Nat) (cI cM cO : ClassId) (sz : Nat) (co : Nat) (xx : Int64) (xreadX : Int64) (soa : Nat) (sna : Nat) (swa : Nat) (xkept : Int32) (ri : Nat) (ro : Nat) (rw : Nat) (xasked : Int32) : MetV l y_Stacked_openMessage (Cond.code y_Stacked_openMessage prog_11_method_6_code 1 none :: gw) ({ frames := 0, cells := 0, slots := 0, locals := 0 } : Room) (dC, dI) vwCl (kT cI cM cO) [Value.ref co] [(co, Sum.inr (5, [Value.long xx, Value.long xreadX, Value.ref soa, Value.ref sna, Value.ref swa, Value.int xkept, Value.ref ri, Value.ref ro, Value.ref rw, Value.int xasked]))] sz (fun (u : Unit) => True) (fun (u : Unit) => [(co, Sum.inr (5, [Value.long xx, Value.long xreadX, Value.ref soa, Value.ref sna, Value.ref swa, Value.int 0, Value.ref ri, Value.ref ro, Value.ref rw, Value.int xasked]))]) 0 0 := by
  refine my_ofV (cc := prog_11_method_6_code) (n := 1) (ret := none) (by decide) rfl (Nat.le_of_ble_eq_true rfl) ?_
  intro p e s m args below meth c R Q A ls H locs hx hb hr hts hown hlocks hml hnm hR hQ hA hl hP hK hN hD hS
  have hg : ∀ w ∈ gw, w.before args s = true := fun w h => hts w (List.mem_cons_of_mem _ h)
  have hown : s.vm.findClass "RangeCoders$Stacked" = some m.cls := hown
  have hl : lv_has ls 1 [(0, Value.ref co)] := hl
  refine lv_aload_n hx hb d_Stacked_openMessage_0 rfl (lv_at hl 0 rfl) ?_
  refine lv_iconst (v := 0) hx hb d_Stacked_openMessage_1 (by decide) ?_
  refine va_put (D := (dC, dI)) (ci := 5) (v := .int 0) (ty := .int) (C := "RangeCoders$Table") (T := T_Table) (N := 10) hx hb hg in_Table t_Table o_Table n_Table hown hK hP hD hS 0 rfl rfl 5 (by decide) (hg _ k223) (fun _ h9 => h9) rfl (o_Table 5 (by decide)) rfl rfl (Nat.le_of_ble_eq_true rfl) d_Stacked_openMessage_2 (fun H locs hP hD hS => ?_)
  have hPD : my_PD (dC, dI) vwCl A [(co, Sum.inr (5, [Value.long xx, Value.long xreadX, Value.ref soa, Value.ref sna, Value.ref swa, Value.int 0, Value.ref ri, Value.ref ro, Value.ref rw, Value.int xasked]))] H := ⟨hP, hD⟩
  have hP := hPD.1
  have hD := hPD.2
  exact my_vret hx hb hr hlocks hQ hK hS (Nat.le_refl _) (Nat.le_refl _) () (trivial) (hP.sub [0] rfl) (hD.sub [0] (by decide +kernel) rfl) d_Stacked_openMessage_5
end
section
set_option maxHeartbeats 2000000 in
set_option maxRecDepth 100000 in
theorem f_Carries_newOdds (l : Launch) (dC : Nat → ClassId) (dI : Nat → Nat → Nat) (cI cM cO : ClassId) (sz : Nat) (sl : Nat) (co : Nat) (xcache : Int32) (xpending : Int32) (xlow : Int64) (xrange : Int64) (xcode : Int64) (xreadLow : Int64) (xreadRange : Int64) (ri : Nat) (ro : Nat) (rw : Nat) (xasked : Int32) (nS : Nat) (hns2 : 2 ≤ nS) (hns : nS ≤ 64) : MetQg l y_Coder_newOdds (Cond.code y_Coder_newOdds prog_4_method_11_code 2 (some (.object "RangeCoders$Odds")) :: gw) ({ frames := 2, cells := 700, slots := 700, locals := 36 } : Room) (dC, dI) vwCl (kT cI cM cO) [Value.ref co, Value.int (nI nS)] [(co, Sum.inr (1, [Value.int xcache, Value.int xpending, Value.long xlow, Value.long xrange, Value.long xcode, Value.long xreadLow, Value.long xreadRange, Value.ref ri, Value.ref ro, Value.ref rw, Value.int xasked]))] sz sl (fun (r : Option Nat) (u : Nat × Nat × Nat) => r = some u.1) (fun (u : Nat × Nat × Nat) => [(co, Sum.inr (1, [Value.int xcache, Value.int xpending, Value.long xlow, Value.long xrange, Value.long xcode, Value.long xreadLow, Value.long xreadRange, Value.ref ri, Value.ref ro, Value.ref rw, Value.int xasked])), (u.1, Sum.inr (7, [Value.int (nI nS), Value.int 0, Value.int 0, Value.ref u.2.1, Value.ref u.2.2])), (u.2.1, Sum.inl (cI, nS, Sum.inl (fun _ => 0))), (u.2.2, Sum.inl (cI, 0, Sum.inl (fun _ => 0)))]) 700 (fun (u : Nat × Nat × Nat) => 0) := by
  refine my_ofQg (cc := prog_4_method_11_code) (n := 2) (ret := (some (.object "RangeCoders$Odds"))) (by decide) rfl (Nat.le_of_ble_eq_true rfl) ?_
  intro p e s m args below meth c R Q A ls H locs hx hb hr hts hown hlocks hml hnm hR hQ hA hl hP hK hN hD hS
  have hg : ∀ w ∈ gw, w.before args s = true := fun w h => hts w (List.mem_cons_of_mem _ h)
  have hown : s.vm.findClass "RangeCoders$Coder" = some m.cls := hown
  have hl : lv_has ls 2 [(0, Value.ref co), (1, Value.int (nI nS))] := hl
  refine va_new (ci := 7) (fs := [Value.int 0, Value.int 0, Value.int 0, Value.null, Value.null]) (C := "RangeCoders$Odds") (T := T_Odds) (N := 5) hx hb hg in_Odds t_Odds o_Odds hown (hg _ k331) (hg _ k295) (hg _ k14) hK hP hD hS hA rfl (fun j hj => by rcases (show j = 0 ∨ j = 1 ∨ j = 2 ∨ j = 3 ∨ j = 4 by omega) with rfl | rfl | rfl | rfl | rfl <;> rfl) (by rw [hR]; exact (show 0 + 1 ≤ 700 by omega)) (by rw [hR]; exact (show 0 + 5 ≤ 700 by omega)) d_Coder_newOdds_0 (fun q_1 H hP hD hS => ?_)
  have hPD : my_PD (dC, dI) vwCl A [(co, Sum.inr (1, [Value.int xcache, Value.int xpending, Value.long xlow, Value.long xrange, Value.long xcode, Value.long xreadLow, Value.long xreadRange, Value.ref ri, Value.ref ro, Value.ref rw, Value.int xasked])), (q_1, Sum.inr (7, [Value.int 0, Value.int 0, Value.int 0, Value.null, Value.null]))] H := ⟨hP, hD⟩
  have hP := hPD.1
  have hD := hPD.2
  refine lv_dup hx hb d_Coder_newOdds_3 rfl ?_
  refine lv_iload_n hx hb d_Coder_newOdds_4 rfl (lv_at hl 1 rfl) ?_
  refine lv_iconst (v := 0) hx hb d_Coder_newOdds_5 (by decide) ?_
  refine lv_iload_n hx hb d_Coder_newOdds_6 rfl (lv_at hl 1 rfl) ?_
  refine lv_iconst (v := 0) hx hb d_Coder_newOdds_7 (by decide) ?_
  refine W.eq (g2 := F0 m 8 ls [Value.int (nI 0), Value.int (nI nS), Value.int 0, Value.int (nI nS), Value.ref q_1, Value.ref q_1]) rfl ?_
  refine my_cvg (wr := [(co, Sum.inr (1, [Value.int xcache, Value.int xpending, Value.long xlow, Value.long xrange, Value.long xcode, Value.long xreadLow, Value.long xreadRange, Value.ref ri, Value.ref ro, Value.ref rw, Value.int xasked]))]) (va_runI (As := [Value.int (nI nS), Value.int 0, Value.int (nI nS), Value.int (nI 0)]) (rest := [Value.ref q_1]) ⟨hx, hb, hml, hown, hts⟩ (c_Odds_init l dC dI cI cM cO H.size (hSl H) q_1 (nI nS) 0 nS 0 (by first | assumption | omega) (by first | assumption | omega)) (cwI 4 hts (my_gC k301) rfl rfl rfl (hg _ k14) (hg _ k332) (hg _ k300) rfl (by decide +kernel) ⟨by rw [hR]; exact Nat.le_of_ble_eq_true rfl, by rw [hR]; exact Nat.le_of_ble_eq_true rfl⟩) (my_preg (As := [Value.ref q_1, Value.int (nI nS), Value.int 0, Value.int (nI nS), Value.int (nI 0)]) hK hN (hP.sub [1] rfl) (hD.sub [1] (by decide +kernel) rfl)) rfl rfl hl.1 rfl (lv_room (Nat.le_of_ble_eq_true rfl)) d_Coder_newOdds_8 ⟨by rw [hR]; exact (show (0 + 1) + 600 ≤ 700 by omega), by rw [hR]; exact (show (0 + 5) + 600 ≤ 700 by omega)⟩) hP hD hS hA [1] [0] rfl rfl (by decide +kernel) (by decide +kernel) (fun u9 d_8 H locs hd_8 hw_8 hP hD hS => ?_)
  obtain ⟨zca_8, zpa_8⟩ := u9
  have hd_8 : d_8 + 0 ≤ 600 := hd_8
  have hPD : my_PD (dC, dI) vwCl A [(co, Sum.inr (1, [Value.int xcache, Value.int xpending, Value.long xlow, Value.long xrange, Value.long xcode, Value.long xreadLow, Value.long xreadRange, Value.ref ri, Value.ref ro, Value.ref rw, Value.int xasked])), (q_1, Sum.inr (7, [Value.int (nI nS), Value.int 0, Value.int 0, Value.ref zca_8, Value.ref zpa_8])), (zca_8, Sum.inl (cI, nS, Sum.inl (fun _ => 0))), (zpa_8, Sum.inl (cI, 0, Sum.inl (fun _ => 0)))] H := ⟨hP, hD⟩
  have hP := hPD.1
  have hD := hPD.2
  exact my_qretg (v := some q_1) hx hb hr (Or.inl ⟨_, rfl⟩) hlocks hQ hK hS (q_1, zca_8, zpa_8) (show (0 + 1 + d_8) + 0 ≤ 700 by omega) (show (0 + 5 + d_8) + 0 ≤ 700 by omega) (rfl) (hP.sub [0, 1, 2, 3] rfl) (hD.sub [0, 1, 2, 3] (by decide +kernel) rfl) d_Coder_newOdds_11
set_option maxHeartbeats 2000000 in
set_option maxRecDepth 100000 in
theorem f_NoCarries_newOdds (l : Launch) (dC : Nat → ClassId) (dI : Nat → Nat → Nat) (cI cM cO : ClassId) (sz : Nat) (sl : Nat) (co : Nat) (xlow : Int64) (xrange : Int64) (xcode : Int64) (xreadLow : Int64) (xreadRange : Int64) (ri : Nat) (ro : Nat) (rw : Nat) (xasked : Int32) (nS : Nat) (hns2 : 2 ≤ nS) (hns : nS ≤ 64) : MetQg l y_Coder_newOdds (Cond.code y_Coder_newOdds prog_4_method_11_code 2 (some (.object "RangeCoders$Odds")) :: gw) ({ frames := 2, cells := 700, slots := 700, locals := 36 } : Room) (dC, dI) vwCl (kT cI cM cO) [Value.ref co, Value.int (nI nS)] [(co, Sum.inr (2, [Value.long xlow, Value.long xrange, Value.long xcode, Value.long xreadLow, Value.long xreadRange, Value.ref ri, Value.ref ro, Value.ref rw, Value.int xasked]))] sz sl (fun (r : Option Nat) (u : Nat × Nat × Nat) => r = some u.1) (fun (u : Nat × Nat × Nat) => [(co, Sum.inr (2, [Value.long xlow, Value.long xrange, Value.long xcode, Value.long xreadLow, Value.long xreadRange, Value.ref ri, Value.ref ro, Value.ref rw, Value.int xasked])), (u.1, Sum.inr (7, [Value.int (nI nS), Value.int 0, Value.int 0, Value.ref u.2.1, Value.ref u.2.2])), (u.2.1, Sum.inl (cI, nS, Sum.inl (fun _ => 0))), (u.2.2, Sum.inl (cI, 0, Sum.inl (fun _ => 0)))]) 700 (fun (u : Nat × Nat × Nat) => 0) := by
  refine my_ofQg (cc := prog_4_method_11_code) (n := 2) (ret := (some (.object "RangeCoders$Odds"))) (by decide) rfl (Nat.le_of_ble_eq_true rfl) ?_
  intro p e s m args below meth c R Q A ls H locs hx hb hr hts hown hlocks hml hnm hR hQ hA hl hP hK hN hD hS
  have hg : ∀ w ∈ gw, w.before args s = true := fun w h => hts w (List.mem_cons_of_mem _ h)
  have hown : s.vm.findClass "RangeCoders$Coder" = some m.cls := hown
  have hl : lv_has ls 2 [(0, Value.ref co), (1, Value.int (nI nS))] := hl
  refine va_new (ci := 7) (fs := [Value.int 0, Value.int 0, Value.int 0, Value.null, Value.null]) (C := "RangeCoders$Odds") (T := T_Odds) (N := 5) hx hb hg in_Odds t_Odds o_Odds hown (hg _ k331) (hg _ k295) (hg _ k14) hK hP hD hS hA rfl (fun j hj => by rcases (show j = 0 ∨ j = 1 ∨ j = 2 ∨ j = 3 ∨ j = 4 by omega) with rfl | rfl | rfl | rfl | rfl <;> rfl) (by rw [hR]; exact (show 0 + 1 ≤ 700 by omega)) (by rw [hR]; exact (show 0 + 5 ≤ 700 by omega)) d_Coder_newOdds_0 (fun q_1 H hP hD hS => ?_)
  have hPD : my_PD (dC, dI) vwCl A [(co, Sum.inr (2, [Value.long xlow, Value.long xrange, Value.long xcode, Value.long xreadLow, Value.long xreadRange, Value.ref ri, Value.ref ro, Value.ref rw, Value.int xasked])), (q_1, Sum.inr (7, [Value.int 0, Value.int 0, Value.int 0, Value.null, Value.null]))] H := ⟨hP, hD⟩
  have hP := hPD.1
  have hD := hPD.2
  refine lv_dup hx hb d_Coder_newOdds_3 rfl ?_
  refine lv_iload_n hx hb d_Coder_newOdds_4 rfl (lv_at hl 1 rfl) ?_
  refine lv_iconst (v := 0) hx hb d_Coder_newOdds_5 (by decide) ?_
  refine lv_iload_n hx hb d_Coder_newOdds_6 rfl (lv_at hl 1 rfl) ?_
  refine lv_iconst (v := 0) hx hb d_Coder_newOdds_7 (by decide) ?_
  refine W.eq (g2 := F0 m 8 ls [Value.int (nI 0), Value.int (nI nS), Value.int 0, Value.int (nI nS), Value.ref q_1, Value.ref q_1]) rfl ?_
  refine my_cvg (wr := [(co, Sum.inr (2, [Value.long xlow, Value.long xrange, Value.long xcode, Value.long xreadLow, Value.long xreadRange, Value.ref ri, Value.ref ro, Value.ref rw, Value.int xasked]))]) (va_runI (As := [Value.int (nI nS), Value.int 0, Value.int (nI nS), Value.int (nI 0)]) (rest := [Value.ref q_1]) ⟨hx, hb, hml, hown, hts⟩ (c_Odds_init l dC dI cI cM cO H.size (hSl H) q_1 (nI nS) 0 nS 0 (by first | assumption | omega) (by first | assumption | omega)) (cwI 4 hts (my_gC k301) rfl rfl rfl (hg _ k14) (hg _ k332) (hg _ k300) rfl (by decide +kernel) ⟨by rw [hR]; exact Nat.le_of_ble_eq_true rfl, by rw [hR]; exact Nat.le_of_ble_eq_true rfl⟩) (my_preg (As := [Value.ref q_1, Value.int (nI nS), Value.int 0, Value.int (nI nS), Value.int (nI 0)]) hK hN (hP.sub [1] rfl) (hD.sub [1] (by decide +kernel) rfl)) rfl rfl hl.1 rfl (lv_room (Nat.le_of_ble_eq_true rfl)) d_Coder_newOdds_8 ⟨by rw [hR]; exact (show (0 + 1) + 600 ≤ 700 by omega), by rw [hR]; exact (show (0 + 5) + 600 ≤ 700 by omega)⟩) hP hD hS hA [1] [0] rfl rfl (by decide +kernel) (by decide +kernel) (fun u9 d_8 H locs hd_8 hw_8 hP hD hS => ?_)
  obtain ⟨zca_8, zpa_8⟩ := u9
  have hd_8 : d_8 + 0 ≤ 600 := hd_8
  have hPD : my_PD (dC, dI) vwCl A [(co, Sum.inr (2, [Value.long xlow, Value.long xrange, Value.long xcode, Value.long xreadLow, Value.long xreadRange, Value.ref ri, Value.ref ro, Value.ref rw, Value.int xasked])), (q_1, Sum.inr (7, [Value.int (nI nS), Value.int 0, Value.int 0, Value.ref zca_8, Value.ref zpa_8])), (zca_8, Sum.inl (cI, nS, Sum.inl (fun _ => 0))), (zpa_8, Sum.inl (cI, 0, Sum.inl (fun _ => 0)))] H := ⟨hP, hD⟩
  have hP := hPD.1
  have hD := hPD.2
  exact my_qretg (v := some q_1) hx hb hr (Or.inl ⟨_, rfl⟩) hlocks hQ hK hS (q_1, zca_8, zpa_8) (show (0 + 1 + d_8) + 0 ≤ 700 by omega) (show (0 + 5 + d_8) + 0 ≤ 700 by omega) (rfl) (hP.sub [0, 1, 2, 3] rfl) (hD.sub [0, 1, 2, 3] (by decide +kernel) rfl) d_Coder_newOdds_11
set_option maxHeartbeats 2000000 in
set_option maxRecDepth 100000 in
theorem f_Stack_newOdds (l : Launch) (dC : Nat → ClassId) (dI : Nat → Nat → Nat) (cI cM cO : ClassId) (sz : Nat) (sl : Nat) (co : Nat) (xx : Int64) (xreadX : Int64) (soa : Nat) (sna : Nat) (swa : Nat) (xkept : Int32) (ri : Nat) (ro : Nat) (rw : Nat) (xasked : Int32) (nS : Nat) (hns2 : 2 ≤ nS) (hns : nS ≤ 64) : MetQg l y_Coder_newOdds (Cond.code y_Coder_newOdds prog_4_method_11_code 2 (some (.object "RangeCoders$Odds")) :: gw) ({ frames := 2, cells := 700, slots := 700, locals := 36 } : Room) (dC, dI) vwCl (kT cI cM cO) [Value.ref co, Value.int (nI nS)] [(co, Sum.inr (4, [Value.long xx, Value.long xreadX, Value.ref soa, Value.ref sna, Value.ref swa, Value.int xkept, Value.ref ri, Value.ref ro, Value.ref rw, Value.int xasked]))] sz sl (fun (r : Option Nat) (u : Nat × Nat × Nat) => r = some u.1) (fun (u : Nat × Nat × Nat) => [(co, Sum.inr (4, [Value.long xx, Value.long xreadX, Value.ref soa, Value.ref sna, Value.ref swa, Value.int xkept, Value.ref ri, Value.ref ro, Value.ref rw, Value.int xasked])), (u.1, Sum.inr (7, [Value.int (nI nS), Value.int 0, Value.int 0, Value.ref u.2.1, Value.ref u.2.2])), (u.2.1, Sum.inl (cI, nS, Sum.inl (fun _ => 0))), (u.2.2, Sum.inl (cI, 0, Sum.inl (fun _ => 0)))]) 700 (fun (u : Nat × Nat × Nat) => 0) := by
  refine my_ofQg (cc := prog_4_method_11_code) (n := 2) (ret := (some (.object "RangeCoders$Odds"))) (by decide) rfl (Nat.le_of_ble_eq_true rfl) ?_
  intro p e s m args below meth c R Q A ls H locs hx hb hr hts hown hlocks hml hnm hR hQ hA hl hP hK hN hD hS
  have hg : ∀ w ∈ gw, w.before args s = true := fun w h => hts w (List.mem_cons_of_mem _ h)
  have hown : s.vm.findClass "RangeCoders$Coder" = some m.cls := hown
  have hl : lv_has ls 2 [(0, Value.ref co), (1, Value.int (nI nS))] := hl
  refine va_new (ci := 7) (fs := [Value.int 0, Value.int 0, Value.int 0, Value.null, Value.null]) (C := "RangeCoders$Odds") (T := T_Odds) (N := 5) hx hb hg in_Odds t_Odds o_Odds hown (hg _ k331) (hg _ k295) (hg _ k14) hK hP hD hS hA rfl (fun j hj => by rcases (show j = 0 ∨ j = 1 ∨ j = 2 ∨ j = 3 ∨ j = 4 by omega) with rfl | rfl | rfl | rfl | rfl <;> rfl) (by rw [hR]; exact (show 0 + 1 ≤ 700 by omega)) (by rw [hR]; exact (show 0 + 5 ≤ 700 by omega)) d_Coder_newOdds_0 (fun q_1 H hP hD hS => ?_)
  have hPD : my_PD (dC, dI) vwCl A [(co, Sum.inr (4, [Value.long xx, Value.long xreadX, Value.ref soa, Value.ref sna, Value.ref swa, Value.int xkept, Value.ref ri, Value.ref ro, Value.ref rw, Value.int xasked])), (q_1, Sum.inr (7, [Value.int 0, Value.int 0, Value.int 0, Value.null, Value.null]))] H := ⟨hP, hD⟩
  have hP := hPD.1
  have hD := hPD.2
  refine lv_dup hx hb d_Coder_newOdds_3 rfl ?_
  refine lv_iload_n hx hb d_Coder_newOdds_4 rfl (lv_at hl 1 rfl) ?_
  refine lv_iconst (v := 0) hx hb d_Coder_newOdds_5 (by decide) ?_
  refine lv_iload_n hx hb d_Coder_newOdds_6 rfl (lv_at hl 1 rfl) ?_
  refine lv_iconst (v := 0) hx hb d_Coder_newOdds_7 (by decide) ?_
  refine W.eq (g2 := F0 m 8 ls [Value.int (nI 0), Value.int (nI nS), Value.int 0, Value.int (nI nS), Value.ref q_1, Value.ref q_1]) rfl ?_
  refine my_cvg (wr := [(co, Sum.inr (4, [Value.long xx, Value.long xreadX, Value.ref soa, Value.ref sna, Value.ref swa, Value.int xkept, Value.ref ri, Value.ref ro, Value.ref rw, Value.int xasked]))]) (va_runI (As := [Value.int (nI nS), Value.int 0, Value.int (nI nS), Value.int (nI 0)]) (rest := [Value.ref q_1]) ⟨hx, hb, hml, hown, hts⟩ (c_Odds_init l dC dI cI cM cO H.size (hSl H) q_1 (nI nS) 0 nS 0 (by first | assumption | omega) (by first | assumption | omega)) (cwI 4 hts (my_gC k301) rfl rfl rfl (hg _ k14) (hg _ k332) (hg _ k300) rfl (by decide +kernel) ⟨by rw [hR]; exact Nat.le_of_ble_eq_true rfl, by rw [hR]; exact Nat.le_of_ble_eq_true rfl⟩) (my_preg (As := [Value.ref q_1, Value.int (nI nS), Value.int 0, Value.int (nI nS), Value.int (nI 0)]) hK hN (hP.sub [1] rfl) (hD.sub [1] (by decide +kernel) rfl)) rfl rfl hl.1 rfl (lv_room (Nat.le_of_ble_eq_true rfl)) d_Coder_newOdds_8 ⟨by rw [hR]; exact (show (0 + 1) + 600 ≤ 700 by omega), by rw [hR]; exact (show (0 + 5) + 600 ≤ 700 by omega)⟩) hP hD hS hA [1] [0] rfl rfl (by decide +kernel) (by decide +kernel) (fun u9 d_8 H locs hd_8 hw_8 hP hD hS => ?_)
  obtain ⟨zca_8, zpa_8⟩ := u9
  have hd_8 : d_8 + 0 ≤ 600 := hd_8
  have hPD : my_PD (dC, dI) vwCl A [(co, Sum.inr (4, [Value.long xx, Value.long xreadX, Value.ref soa, Value.ref sna, Value.ref swa, Value.int xkept, Value.ref ri, Value.ref ro, Value.ref rw, Value.int xasked])), (q_1, Sum.inr (7, [Value.int (nI nS), Value.int 0, Value.int 0, Value.ref zca_8, Value.ref zpa_8])), (zca_8, Sum.inl (cI, nS, Sum.inl (fun _ => 0))), (zpa_8, Sum.inl (cI, 0, Sum.inl (fun _ => 0)))] H := ⟨hP, hD⟩
  have hP := hPD.1
  have hD := hPD.2
  exact my_qretg (v := some q_1) hx hb hr (Or.inl ⟨_, rfl⟩) hlocks hQ hK hS (q_1, zca_8, zpa_8) (show (0 + 1 + d_8) + 0 ≤ 700 by omega) (show (0 + 5 + d_8) + 0 ≤ 700 by omega) (rfl) (hP.sub [0, 1, 2, 3] rfl) (hD.sub [0, 1, 2, 3] (by decide +kernel) rfl) d_Coder_newOdds_11
set_option maxHeartbeats 2000000 in
set_option maxRecDepth 100000 in
theorem f_Table_newOdds (l : Launch) (dC : Nat → ClassId) (dI : Nat → Nat → Nat) (cI cM cO : ClassId) (sz : Nat) (sl : Nat) (co : Nat) (xx : Int64) (xreadX : Int64) (soa : Nat) (sna : Nat) (swa : Nat) (xkept : Int32) (ri : Nat) (ro : Nat) (rw : Nat) (xasked : Int32) (nS : Nat) (hns2 : 2 ≤ nS) (hns : nS ≤ 64) : MetQg l y_Table_newOdds (Cond.code y_Table_newOdds prog_12_method_2_code 2 (some (.object "RangeCoders$Odds")) :: gw) ({ frames := 2, cells := 700, slots := 700, locals := 36 } : Room) (dC, dI) vwCl (kT cI cM cO) [Value.ref co, Value.int (nI nS)] [(co, Sum.inr (5, [Value.long xx, Value.long xreadX, Value.ref soa, Value.ref sna, Value.ref swa, Value.int xkept, Value.ref ri, Value.ref ro, Value.ref rw, Value.int xasked]))] sz sl (fun (r : Option Nat) (u : Nat × Nat × Nat) => r = some u.1) (fun (u : Nat × Nat × Nat) => [(co, Sum.inr (5, [Value.long xx, Value.long xreadX, Value.ref soa, Value.ref sna, Value.ref swa, Value.int xkept, Value.ref ri, Value.ref ro, Value.ref rw, Value.int xasked])), (u.1, Sum.inr (7, [Value.int (nI nS), Value.int 0, Value.int 0, Value.ref u.2.1, Value.ref u.2.2])), (u.2.1, Sum.inl (cI, nS, Sum.inl (fun _ => 0))), (u.2.2, Sum.inl (cI, 512, Sum.inl (fun _ => 0)))]) 700 (fun (u : Nat × Nat × Nat) => 0) := by
  refine my_ofQg (cc := prog_12_method_2_code) (n := 2) (ret := (some (.object "RangeCoders$Odds"))) (by decide) rfl (Nat.le_of_ble_eq_true rfl) ?_
  intro p e s m args below meth c R Q A ls H locs hx hb hr hts hown hlocks hml hnm hR hQ hA hl hP hK hN hD hS
  have hg : ∀ w ∈ gw, w.before args s = true := fun w h => hts w (List.mem_cons_of_mem _ h)
  have hown : s.vm.findClass "RangeCoders$Table" = some m.cls := hown
  have hl : lv_has ls 2 [(0, Value.ref co), (1, Value.int (nI nS))] := hl
  refine va_new (ci := 7) (fs := [Value.int 0, Value.int 0, Value.int 0, Value.null, Value.null]) (C := "RangeCoders$Odds") (T := T_Odds) (N := 5) hx hb hg in_Odds t_Odds o_Odds hown (hg _ k328) (hg _ k295) (hg _ k14) hK hP hD hS hA rfl (fun j hj => by rcases (show j = 0 ∨ j = 1 ∨ j = 2 ∨ j = 3 ∨ j = 4 by omega) with rfl | rfl | rfl | rfl | rfl <;> rfl) (by rw [hR]; exact (show 0 + 1 ≤ 700 by omega)) (by rw [hR]; exact (show 0 + 5 ≤ 700 by omega)) d_Table_newOdds_0 (fun q_1 H hP hD hS => ?_)
  have hPD : my_PD (dC, dI) vwCl A [(co, Sum.inr (5, [Value.long xx, Value.long xreadX, Value.ref soa, Value.ref sna, Value.ref swa, Value.int xkept, Value.ref ri, Value.ref ro, Value.ref rw, Value.int xasked])), (q_1, Sum.inr (7, [Value.int 0, Value.int 0, Value.int 0, Value.null, Value.null]))] H := ⟨hP, hD⟩
  have hP := hPD.1
  have hD := hPD.2
  refine lv_dup hx hb d_Table_newOdds_3 rfl ?_
  refine lv_iload_n hx hb d_Table_newOdds_4 rfl (lv_at hl 1 rfl) ?_
  refine lv_iconst (v := 0) hx hb d_Table_newOdds_5 (by decide) ?_
  refine lv_iload_n hx hb d_Table_newOdds_6 rfl (lv_at hl 1 rfl) ?_
  refine lv_sipush (v := 512) hx hb d_Table_newOdds_7 (by decide) ?_
  refine W.eq (g2 := F0 m 10 ls [Value.int (nI 512), Value.int (nI nS), Value.int 0, Value.int (nI nS), Value.ref q_1, Value.ref q_1]) rfl ?_
  refine my_cvg (wr := [(co, Sum.inr (5, [Value.long xx, Value.long xreadX, Value.ref soa, Value.ref sna, Value.ref swa, Value.int xkept, Value.ref ri, Value.ref ro, Value.ref rw, Value.int xasked]))]) (va_runI (As := [Value.int (nI nS), Value.int 0, Value.int (nI nS), Value.int (nI 512)]) (rest := [Value.ref q_1]) ⟨hx, hb, hml, hown, hts⟩ (c_Odds_init l dC dI cI cM cO H.size (hSl H) q_1 (nI nS) 0 nS 512 (by first | assumption | omega) (by first | assumption | omega)) (cwI 4 hts (my_gC k301) rfl rfl rfl (hg _ k14) (hg _ k329) (hg _ k300) rfl (by decide +kernel) ⟨by rw [hR]; exact Nat.le_of_ble_eq_true rfl, by rw [hR]; exact Nat.le_of_ble_eq_true rfl⟩) (my_preg (As := [Value.ref q_1, Value.int (nI nS), Value.int 0, Value.int (nI nS), Value.int (nI 512)]) hK hN (hP.sub [1] rfl) (hD.sub [1] (by decide +kernel) rfl)) rfl rfl hl.1 rfl (lv_room (Nat.le_of_ble_eq_true rfl)) d_Table_newOdds_10 ⟨by rw [hR]; exact (show (0 + 1) + 600 ≤ 700 by omega), by rw [hR]; exact (show (0 + 5) + 600 ≤ 700 by omega)⟩) hP hD hS hA [1] [0] rfl rfl (by decide +kernel) (by decide +kernel) (fun u9 d_10 H locs hd_10 hw_10 hP hD hS => ?_)
  obtain ⟨zca_10, zpa_10⟩ := u9
  have hd_10 : d_10 + 0 ≤ 600 := hd_10
  have hPD : my_PD (dC, dI) vwCl A [(co, Sum.inr (5, [Value.long xx, Value.long xreadX, Value.ref soa, Value.ref sna, Value.ref swa, Value.int xkept, Value.ref ri, Value.ref ro, Value.ref rw, Value.int xasked])), (q_1, Sum.inr (7, [Value.int (nI nS), Value.int 0, Value.int 0, Value.ref zca_10, Value.ref zpa_10])), (zca_10, Sum.inl (cI, nS, Sum.inl (fun _ => 0))), (zpa_10, Sum.inl (cI, 512, Sum.inl (fun _ => 0)))] H := ⟨hP, hD⟩
  have hP := hPD.1
  have hD := hPD.2
  exact my_qretg (v := some q_1) hx hb hr (Or.inl ⟨_, rfl⟩) hlocks hQ hK hS (q_1, zca_10, zpa_10) (show (0 + 1 + d_10) + 0 ≤ 700 by omega) (show (0 + 5 + d_10) + 0 ≤ 700 by omega) (rfl) (hP.sub [0, 1, 2, 3] rfl) (hD.sub [0, 1, 2, 3] (by decide +kernel) rfl) d_Table_newOdds_13
set_option maxHeartbeats 2000000 in
set_option maxRecDepth 100000 in
theorem f_Bits_newOdds (l : Launch) (dC : Nat → ClassId) (dI : Nat → Nat → Nat) (cI cM cO : ClassId) (sz : Nat) (sl : Nat) (co : Nat) (xshift : Int32) (xkeptCode : Int64) (xkeptRange : Int64) (xkeptAsked : Int32) (xcache : Int32) (xpending : Int32) (xlow : Int64) (xrange : Int64) (xcode : Int64) (xreadLow : Int64) (xreadRange : Int64) (ri : Nat) (ro : Nat) (rw : Nat) (xasked : Int32) (nS : Nat) (hns2 : 2 ≤ nS) (hns : nS ≤ 64) : MetQg l y_Bits_newOdds (Cond.code y_Bits_newOdds prog_2_method_2_code 2 (some (.object "RangeCoders$Odds")) :: gw) ({ frames := 2, cells := 700, slots := 700, locals := 36 } : Room) (dC, dI) vwCl (kT cI cM cO) [Value.ref co, Value.int (nI nS)] [(co, Sum.inr (3, [Value.int xshift, Value.long xkeptCode, Value.long xkeptRange, Value.int xkeptAsked, Value.int xcache, Value.int xpending, Value.long xlow, Value.long xrange, Value.long xcode, Value.long xreadLow, Value.long xreadRange, Value.ref ri, Value.ref ro, Value.ref rw, Value.int xasked]))] sz sl (fun (r : Option Nat) (u : Nat × Nat × Nat) => r = some u.1) (fun (u : Nat × Nat × Nat) => [(co, Sum.inr (3, [Value.int xshift, Value.long xkeptCode, Value.long xkeptRange, Value.int xkeptAsked, Value.int xcache, Value.int xpending, Value.long xlow, Value.long xrange, Value.long xcode, Value.long xreadLow, Value.long xreadRange, Value.ref ri, Value.ref ro, Value.ref rw, Value.int xasked])), (u.1, Sum.inr (7, [Value.int (nI nS), Value.int 0, Value.int 1, Value.ref u.2.1, Value.ref u.2.2])), (u.2.1, Sum.inl (cI, (2 ^ lev nS), Sum.inl (fun _ => 0))), (u.2.2, Sum.inl (cI, 0, Sum.inl (fun _ => 0)))]) 700 (fun (u : Nat × Nat × Nat) => 0) := by
  refine my_ofQg (cc := prog_2_method_2_code) (n := 2) (ret := (some (.object "RangeCoders$Odds"))) (by decide) rfl (Nat.le_of_ble_eq_true rfl) ?_
  intro p e s m args below meth c R Q A ls H locs hx hb hr hts hown hlocks hml hnm hR hQ hA hl hP hK hN hD hS
  have hg : ∀ w ∈ gw, w.before args s = true := fun w h => hts w (List.mem_cons_of_mem _ h)
  have hown : s.vm.findClass "RangeCoders$Bits" = some m.cls := hown
  have hl : lv_has ls 2 [(0, Value.ref co), (1, Value.int (nI nS))] := hl
  refine va_new (ci := 7) (fs := [Value.int 0, Value.int 0, Value.int 0, Value.null, Value.null]) (C := "RangeCoders$Odds") (T := T_Odds) (N := 5) hx hb hg in_Odds t_Odds o_Odds hown (hg _ k294) (hg _ k295) (hg _ k14) hK hP hD hS hA rfl (fun j hj => by rcases (show j = 0 ∨ j = 1 ∨ j = 2 ∨ j = 3 ∨ j = 4 by omega) with rfl | rfl | rfl | rfl | rfl <;> rfl) (by rw [hR]; exact (show 0 + 1 ≤ 700 by omega)) (by rw [hR]; exact (show 0 + 5 ≤ 700 by omega)) d_Bits_newOdds_0 (fun q_1 H hP hD hS => ?_)
  have hPD : my_PD (dC, dI) vwCl A [(co, Sum.inr (3, [Value.int xshift, Value.long xkeptCode, Value.long xkeptRange, Value.int xkeptAsked, Value.int xcache, Value.int xpending, Value.long xlow, Value.long xrange, Value.long xcode, Value.long xreadLow, Value.long xreadRange, Value.ref ri, Value.ref ro, Value.ref rw, Value.int xasked])), (q_1, Sum.inr (7, [Value.int 0, Value.int 0, Value.int 0, Value.null, Value.null]))] H := ⟨hP, hD⟩
  have hP := hPD.1
  have hD := hPD.2
  refine lv_dup hx hb d_Bits_newOdds_3 rfl ?_
  refine lv_iload_n hx hb d_Bits_newOdds_4 rfl (lv_at hl 1 rfl) ?_
  refine lv_iconst (v := 1) hx hb d_Bits_newOdds_5 (by decide) ?_
  refine lv_iconst (v := 1) hx hb d_Bits_newOdds_6 (by decide) ?_
  refine lv_iload_n hx hb d_Bits_newOdds_7 rfl (lv_at hl 1 rfl) ?_
  refine my_ci (wr := [(co, Sum.inr (3, [Value.int xshift, Value.long xkeptCode, Value.long xkeptRange, Value.int xkeptAsked, Value.int xcache, Value.int xpending, Value.long xlow, Value.long xrange, Value.long xcode, Value.long xreadLow, Value.long xreadRange, Value.ref ri, Value.ref ro, Value.ref rw, Value.int xasked])), (q_1, Sum.inr (7, [Value.int 0, Value.int 0, Value.int 0, Value.null, Value.null]))]) (va_runS (As := [Value.int (nI nS)]) (rest := [Value.int 1, Value.int 1, Value.int (nI nS), Value.ref q_1, Value.ref q_1]) ⟨hx, hb, hml, hown, hts⟩ (f_Bits_levelsOf l dC dI cI cM cO H.size nS (by first | assumption | omega) (by first | assumption | omega)) (cwS 1 hts (my_gS k296 k297 k8 k298) rfl rfl rfl (by decide +kernel) ⟨by rw [hR]; exact Nat.le_of_ble_eq_true rfl, by rw [hR]; exact Nat.le_of_ble_eq_true rfl⟩) (my_pre hK hN (hP.sub [] rfl) (hD.sub [] (by decide +kernel) rfl)) rfl rfl hl.1 rfl (lv_room (Nat.le_of_ble_eq_true rfl)) d_Bits_newOdds_8 ⟨by rw [hR]; exact (show (0 + 1) + 0 ≤ 700 by omega), by rw [hR]; exact (show (0 + 5) + 0 ≤ 700 by omega)⟩) hP hD hS hA [] [0, 1] rfl rfl (by decide +kernel) (by decide +kernel) (fun r_8 u9 H locs hw_8 hP hD hS => ?_)
  have hr_8 : r_8 = nI (lev nS) := hw_8
  have hPD : my_PD (dC, dI) vwCl A [(co, Sum.inr (3, [Value.int xshift, Value.long xkeptCode, Value.long xkeptRange, Value.int xkeptAsked, Value.int xcache, Value.int xpending, Value.long xlow, Value.long xrange, Value.long xcode, Value.long xreadLow, Value.long xreadRange, Value.ref ri, Value.ref ro, Value.ref rw, Value.int xasked])), (q_1, Sum.inr (7, [Value.int 0, Value.int 0, Value.int 0, Value.null, Value.null]))] H := ⟨hP, hD⟩
  have hP := hPD.1
  have hD := hPD.2
  refine lv_ishl hx hb d_Bits_newOdds_11 ?_
  refine lv_topi (fun v_2 ev_2 => ?_)
  refine lv_iconst (v := 0) hx hb d_Bits_newOdds_12 (by decide) ?_
  have hlv6 := lev_63 nS
  have z9 : v_2 = nI (2 ^ lev nS) := by rw [ev_2, hr_8]; exact shl1 _ (lev_30 _)
  subst z9
  refine W.eq (g2 := F0 m 13 ls [Value.int (nI 0), Value.int (nI (2 ^ lev nS)), Value.int 1, Value.int (nI nS), Value.ref q_1, Value.ref q_1]) rfl ?_
  refine my_cvg (wr := [(co, Sum.inr (3, [Value.int xshift, Value.long xkeptCode, Value.long xkeptRange, Value.int xkeptAsked, Value.int xcache, Value.int xpending, Value.long xlow, Value.long xrange, Value.long xcode, Value.long xreadLow, Value.long xreadRange, Value.ref ri, Value.ref ro, Value.ref rw, Value.int xasked]))]) (va_runI (As := [Value.int (nI nS), Value.int 1, Value.int (nI (2 ^ lev nS)), Value.int (nI 0)]) (rest := [Value.ref q_1]) ⟨hx, hb, hml, hown, hts⟩ (c_Odds_init l dC dI cI cM cO H.size (hSl H) q_1 (nI nS) 1 (2 ^ lev nS) 0 (by first | assumption | omega) (by first | assumption | omega)) (cwI 4 hts (my_gC k301) rfl rfl rfl (hg _ k14) (hg _ k299) (hg _ k300) rfl (by decide +kernel) ⟨by rw [hR]; exact Nat.le_of_ble_eq_true rfl, by rw [hR]; exact Nat.le_of_ble_eq_true rfl⟩) (my_preg (As := [Value.ref q_1, Value.int (nI nS), Value.int 1, Value.int (nI (2 ^ lev nS)), Value.int (nI 0)]) hK hN (hP.sub [1] rfl) (hD.sub [1] (by decide +kernel) rfl)) rfl rfl hl.1 rfl (lv_room (Nat.le_of_ble_eq_true rfl)) d_Bits_newOdds_13 ⟨by rw [hR]; exact (show (0 + 1) + 600 ≤ 700 by omega), by rw [hR]; exact (show (0 + 5) + 600 ≤ 700 by omega)⟩) hP hD hS hA [1] [0] rfl rfl (by decide +kernel) (by decide +kernel) (fun u9 d_13 H locs hd_13 hw_13 hP hD hS => ?_)
  obtain ⟨zca_13, zpa_13⟩ := u9
  have hd_13 : d_13 + 0 ≤ 600 := hd_13
  have hPD : my_PD (dC, dI) vwCl A [(co, Sum.inr (3, [Value.int xshift, Value.long xkeptCode, Value.long xkeptRange, Value.int xkeptAsked, Value.int xcache, Value.int xpending, Value.long xlow, Value.long xrange, Value.long xcode, Value.long xreadLow, Value.long xreadRange, Value.ref ri, Value.ref ro, Value.ref rw, Value.int xasked])), (q_1, Sum.inr (7, [Value.int (nI nS), Value.int 0, Value.int 1, Value.ref zca_13, Value.ref zpa_13])), (zca_13, Sum.inl (cI, (2 ^ lev nS), Sum.inl (fun _ => 0))), (zpa_13, Sum.inl (cI, 0, Sum.inl (fun _ => 0)))] H := ⟨hP, hD⟩
  have hP := hPD.1
  have hD := hPD.2
  exact my_qretg (v := some q_1) hx hb hr (Or.inl ⟨_, rfl⟩) hlocks hQ hK hS (q_1, zca_13, zpa_13) (show (0 + 1 + d_13) + 0 ≤ 700 by omega) (show (0 + 5 + d_13) + 0 ≤ 700 by omega) (rfl) (hP.sub [0, 1, 2, 3] rfl) (hD.sub [0, 1, 2, 3] (by decide +kernel) rfl) d_Bits_newOdds_16
set_option maxHeartbeats 2000000 in
set_option maxRecDepth 100000 in
theorem f_Model_init (l : Launch) (dC : Nat → ClassId) (dI : Nat → Nat → Nat) (cI cM cO : ClassId) (sz : Nat) (sl : Nat) (mo : Nat) (nS : Nat) (o1 : Nat) (o2 : Nat) (hns : nS ≤ 64) : MetVg l y_Model_init (Cond.code y_Model_init prog_5_method_1_code 4 none :: gw) ({ frames := 1, cells := 100, slots := 100, locals := 23 } : Room) (dC, dI) vwCl (kT cI cM cO) [Value.ref mo, Value.int (nI nS), Value.ref o1, Value.ref o2] [(mo, Sum.inr (8, [Value.null, Value.null, Value.null]))] sz sl (fun (u : Nat × (Nat → Int32)) => tbI u.2 nS (fun _ => 1)) (fun (u : Nat × (Nat → Int32)) => [(mo, Sum.inr (8, [Value.ref u.1, Value.ref o1, Value.ref o2])), (u.1, Sum.inl (cI, nS, Sum.inl u.2))]) 100 (fun (u : Nat × (Nat → Int32)) => 0) := by
  refine my_ofVg (cc := prog_5_method_1_code) (n := 4) (ret := none) (by decide) rfl (Nat.le_of_ble_eq_true rfl) ?_
  intro p e s m args below meth c R Q A ls H locs hx hb hr hts hown hlocks hml hnm hR hQ hA hl hP hK hN hD hS
  have hg : ∀ w ∈ gw, w.before args s = true := fun w h => hts w (List.mem_cons_of_mem _ h)
  have hown : s.vm.findClass "RangeCoders$Model" = some m.cls := hown
  have hl : lv_has ls 4 [(0, Value.ref mo), (1, Value.int (nI nS)), (2, Value.ref o1), (3, Value.ref o2)] := hl
  refine lv_aload_n hx hb d_Model_init_0 rfl (lv_at hl 0 rfl) ?_
  refine W.objInit hx hb hown (hg _ k336) (hg _ k23) (hg _ k24) rfl (by rw [hml]; exact hl.1) rfl d_Model_init_1 (by rw [hR]; exact Nat.le_of_ble_eq_true rfl) (by rw [hR]; exact Nat.le_of_ble_eq_true rfl) ?_
  refine W.eq (g2 := F0 m 4 ls []) rfl ?_
  refine lv_aload_n hx hb d_Model_init_4 rfl (lv_at hl 0 rfl) ?_
  refine lv_iload_n hx hb d_Model_init_5 rfl (lv_at hl 1 rfl) ?_
  refine lv_if_lt (tgt := 13) hx hb d_Model_init_6 (by decide) (fun c_1 => ?_) (fun c_1 => ?_)
  · exact absurd c_1 (nI_pos (by omega))
  · refine lv_iload_n hx hb d_Model_init_9 rfl (lv_at hl 1 rfl) ?_
    refine lv_goto (tgt := 14) hx hb d_Model_init_10 (by decide) ?_
    refine my_newi hx hb (hg _ k66) hK 0 rfl hP hD hS hA (N' := nS) (nI_pos (by omega)) (nI_clamp (by omega)) (by omega) (by rw [hR]; exact (show 0 + 1 ≤ 100 by omega)) (by rw [hR]; exact (show 0 + nS ≤ 100 by omega)) d_Model_init_14 (fun q_2 H hP hD hS => ?_)
    have hPD : my_PD (dC, dI) vwCl A [(mo, Sum.inr (8, [Value.null, Value.null, Value.null])), (q_2, Sum.inl (cI, nS, Sum.inl (fun _ => 0)))] H := ⟨hP, hD⟩
    have hP := hPD.1
    have hD := hPD.2
    refine va_putF (D := (dC, dI)) (ci := 8) (v := .ref q_2) (ty := (.array .int)) (C := "RangeCoders$Model") (T := T_Model) (N := 3) hx hb hg in_Model t_Model o_Model n_Model hown hK hP hD hS 0 rfl rfl 0 (by decide) (hg _ k340) (fun _ h9 => h9) rfl (by rw [hnm]; rfl) rfl (o_Model 0 (by decide)) rfl rfl (Nat.le_of_ble_eq_true rfl) d_Model_init_16 (fun H locs hP hD hS => ?_)
    have hPD : my_PD (dC, dI) vwCl A [(mo, Sum.inr (8, [Value.ref q_2, Value.null, Value.null])), (q_2, Sum.inl (cI, nS, Sum.inl (fun _ => 0)))] H := ⟨hP, hD⟩
    have hP := hPD.1
    have hD := hPD.2
    refine lv_aload_n hx hb d_Model_init_19 rfl (lv_at hl 0 rfl) ?_
    refine va_get (D := (dC, dI)) (ci := 8) (v := .ref q_2) (C := "RangeCoders$Model") (T := T_Model) (N := 3) hx hb hg in_Model hown hK hP 0 rfl rfl 0 (by decide) (hg _ k340) (fun _ h9 => h9) rfl d_Model_init_20 ?_
    refine lv_iconst (v := 1) hx hb d_Model_init_23 (by decide) ?_
    refine W.eq (g2 := F0 m 24 ls [Value.int (nI 1), Value.ref q_2]) rfl ?_
    refine my_cv (wr := [(mo, Sum.inr (8, [Value.ref q_2, Value.null, Value.null]))]) (va_runS (As := [Value.ref q_2, Value.int (nI 1)]) (rest := []) ⟨hx, hb, hml, hown, hts⟩ (f_Arrays_fill l dC dI cI cM cO H.size q_2 nS (fun _ => 0) 1 (by omega)) (my_cwS2 2 hts (my_gC k339) rfl rfl rfl (hg _ k15) (hg _ k337) (hg _ k338) (by decide +kernel) ⟨by rw [hR]; exact Nat.le_of_ble_eq_true rfl, by rw [hR]; exact Nat.le_of_ble_eq_true rfl⟩) (my_pre hK hN (hP.sub [1] rfl) (hD.sub [1] (by decide +kernel) rfl)) rfl rfl hl.1 rfl (lv_room (Nat.le_of_ble_eq_true rfl)) d_Model_init_24 ⟨by rw [hR]; exact (show (0 + 1) + 0 ≤ 100 by omega), by rw [hR]; exact (show (0 + nS) + 0 ≤ 100 by omega)⟩) hP hD hS hA [1] [0] rfl rfl (by decide +kernel) (by decide +kernel) (fun u9 H locs hw_24 hP hD hS => ?_)
    obtain ⟨afq_24, rfl⟩ : ∃ z, z = u9 := ⟨_, rfl⟩
    have hf_24 : tbI afq_24 nS (fun _ => 1) := hw_24
    have hPD : my_PD (dC, dI) vwCl A [(mo, Sum.inr (8, [Value.ref q_2, Value.null, Value.null])), (q_2, Sum.inl (cI, nS, Sum.inl afq_24))] H := ⟨hP, hD⟩
    have hP := hPD.1
    have hD := hPD.2
    refine lv_aload_n hx hb d_Model_init_27 rfl (lv_at hl 0 rfl) ?_
    refine lv_aload_n hx hb d_Model_init_28 rfl (lv_at hl 2 rfl) ?_
    refine va_putF (D := (dC, dI)) (ci := 8) (v := .ref o1) (ty := (.object "RangeCoders$Odds")) (C := "RangeCoders$Model") (T := T_Model) (N := 3) hx hb hg in_Model t_Model o_Model n_Model hown hK hP hD hS 0 rfl rfl 1 (by decide) (hg _ k342) (fun _ h9 => h9) rfl (by rw [hnm]; rfl) rfl (o_Model 1 (by decide)) rfl rfl (Nat.le_of_ble_eq_true rfl) d_Model_init_29 (fun H locs hP hD hS => ?_)
    have hPD : my_PD (dC, dI) vwCl A [(mo, Sum.inr (8, [Value.ref q_2, Value.ref o1, Value.null])), (q_2, Sum.inl (cI, nS, Sum.inl afq_24))] H := ⟨hP, hD⟩
    have hP := hPD.1
    have hD := hPD.2
    refine lv_aload_n hx hb d_Model_init_32 rfl (lv_at hl 0 rfl) ?_
    refine lv_aload_n hx hb d_Model_init_33 rfl (lv_at hl 3 rfl) ?_
    refine va_putF (D := (dC, dI)) (ci := 8) (v := .ref o2) (ty := (.object "RangeCoders$Odds")) (C := "RangeCoders$Model") (T := T_Model) (N := 3) hx hb hg in_Model t_Model o_Model n_Model hown hK hP hD hS 0 rfl rfl 2 (by decide) (hg _ k344) (fun _ h9 => h9) rfl (by rw [hnm]; rfl) rfl (o_Model 2 (by decide)) rfl rfl (Nat.le_of_ble_eq_true rfl) d_Model_init_34 (fun H locs hP hD hS => ?_)
    have hPD : my_PD (dC, dI) vwCl A [(mo, Sum.inr (8, [Value.ref q_2, Value.ref o1, Value.ref o2])), (q_2, Sum.inl (cI, nS, Sum.inl afq_24))] H := ⟨hP, hD⟩
    have hP := hPD.1
    have hD := hPD.2
    exact my_vretg hx hb hr hlocks hQ hK hS (q_2, afq_24) (show (0 + 1) + 0 ≤ 100 by omega) (show (0 + nS) + 0 ≤ 100 by omega) (hf_24) (hP.sub [0, 1] rfl) (hD.sub [0, 1] (by decide +kernel) rfl) d_Model_init_37
set_option maxHeartbeats 2000000 in
set_option maxRecDepth 100000 in
theorem f_RC_modelB_Carries (l : Launch) (dC : Nat → ClassId) (dI : Nat → Nat → Nat) (cI cM cO : ClassId) (sz : Nat) (sl : Nat) (rc : Nat) (ma : Nat) (k : Nat) (fit : Int32) (fen : Int32) (frd : Int32) (fbd : Int32) (fir : Int32) (mf : Nat → Option Nat) (co : Nat) (xcache : Int32) (xpending : Int32) (xlow : Int64) (xrange : Int64) (xcode : Int64) (xreadLow : Int64) (xreadRange : Int64) (ri : Nat) (ro : Nat) (rw : Nat) (xasked : Int32) (nS : Nat) (hns2 : 2 ≤ nS) (hns : nS ≤ 64) (hk : k < 8) : MetIg l y_RC_model (Cond.code y_RC_model prog_1_method_2_code 3 (some .int) :: gw) ({ frames := 3, cells := 1600, slots := 1600, locals := 66 } : Room) (dC, dI) vwCl (kT cI cM cO) [Value.ref rc, Value.int (nI nS)] [(rc, Sum.inr (6, [Value.ref co, Value.ref ma, Value.int (nI k), Value.int fit, Value.int fen, Value.int frd, Value.int fbd, Value.int fir])), (ma, Sum.inl (cM, 8, Sum.inr (Sum.inr (Sum.inr (Sum.inr mf))))), (co, Sum.inr (1, [Value.int xcache, Value.int xpending, Value.long xlow, Value.long xrange, Value.long xcode, Value.long xreadLow, Value.long xreadRange, Value.ref ri, Value.ref ro, Value.ref rw, Value.int xasked]))] sz sl (fun (r : Int32) (u : Nat × Nat × (Nat → Int32) × Nat × Nat × Nat × (Nat → Int32) × Nat × Nat × Nat × (Nat → Int32)) => r = nI k ∧ tbI u.2.2.1 nS (fun _ => 1) ∧ tbI u.2.2.2.2.2.2.1 nS (les nS (fun _ => 1)) ∧ tbI u.2.2.2.2.2.2.2.2.2.2 nS (les nS (fun _ => 1))) (fun (u : Nat × Nat × (Nat → Int32) × Nat × Nat × Nat × (Nat → Int32) × Nat × Nat × Nat × (Nat → Int32)) => [(rc, Sum.inr (6, [Value.ref co, Value.ref ma, Value.int (nI (k + 1)), Value.int fit, Value.int fen, Value.int frd, Value.int fbd, Value.int fir])), (ma, Sum.inl (cM, 8, Sum.inr (Sum.inr (Sum.inr (Sum.inr (va_up mf k (some u.1))))))), (co, Sum.inr (1, [Value.int xcache, Value.int xpending, Value.long xlow, Value.long xrange, Value.long xcode, Value.long xreadLow, Value.long xreadRange, Value.ref ri, Value.ref ro, Value.ref rw, Value.int xasked])), (u.1, Sum.inr (8, [Value.ref u.2.1, Value.ref u.2.2.2.1, Value.ref u.2.2.2.2.2.2.2.1])), (u.2.1, Sum.inl (cI, nS, Sum.inl u.2.2.1)), (u.2.2.2.1, Sum.inr (7, [Value.int (nI nS), Value.int (nI (ns (les nS (fun _ => 1)) nS)), Value.int 0, Value.ref u.2.2.2.2.1, Value.ref u.2.2.2.2.2.1])), (u.2.2.2.2.1, Sum.inl (cI, nS, Sum.inl u.2.2.2.2.2.2.1)), (u.2.2.2.2.2.1, Sum.inl (cI, 0, Sum.inl (fun _ => 0))), (u.2.2.2.2.2.2.2.1, Sum.inr (7, [Value.int (nI nS), Value.int (nI (ns (les nS (fun _ => 1)) nS)), Value.int 0, Value.ref u.2.2.2.2.2.2.2.2.1, Value.ref u.2.2.2.2.2.2.2.2.2.1])), (u.2.2.2.2.2.2.2.2.1, Sum.inl (cI, nS, Sum.inl u.2.2.2.2.2.2.2.2.2.2)), (u.2.2.2.2.2.2.2.2.2.1, Sum.inl (cI, 0, Sum.inl (fun _ => 0)))]) 1600 (fun (u : Nat × Nat × (Nat → Int32) × Nat × Nat × Nat × (Nat → Int32) × Nat × Nat × Nat × (Nat → Int32)) => 0) := by
  refine my_ofIg (cc := prog_1_method_2_code) (n := 3) (ret := (some .int)) (by decide) rfl (Nat.le_of_ble_eq_true rfl) ?_
  intro p e s m args below meth c R Q A ls H locs hx hb hr hts hown hlocks hml hnm hR hQ hA hl hP hK hN hD hS
  have hg : ∀ w ∈ gw, w.before args s = true := fun w h => hts w (List.mem_cons_of_mem _ h)
  have hown : s.vm.findClass "RangeCoders" = some m.cls := hown
  have hl : lv_has ls 3 [(0, Value.ref rc), (1, Value.int (nI nS))] := hl
  have hb1 : bd (fun _ => 1) nS 4095 := fun _ _ => (by decide : 1 ≤ 4095)
  have hlv6 := lev_63 nS
  refine lv_iload_n hx hb d_RC_model_0 rfl (lv_at hl 1 rfl) ?_
  refine lv_iconst (v := 2) hx hb d_RC_model_1 (by decide) ?_
  refine lv_icmp_lt (tgt := 11) hx hb d_RC_model_2 (by decide) (fun c_1 => ?_) (fun c_1 => ?_)
  · exact absurd c_1 (show ¬ nI nS < nI 2 from nI_nlt hns2 (by omega))
  · refine lv_iload_n hx hb d_RC_model_5 rfl (lv_at hl 1 rfl) ?_
    refine lv_bipush (v := 64) hx hb d_RC_model_6 (by decide) ?_
    refine lv_icmp_le (tgt := 14) hx hb d_RC_model_8 (by decide) (fun c_2 => ?_) (fun c_2 => ?_)
    · refine lv_aload_n hx hb d_RC_model_14 rfl (lv_at hl 0 rfl) ?_
      refine va_get (D := (dC, dI)) (ci := 6) (v := .int (nI k)) (C := "RangeCoders") (T := T_RC) (N := 8) hx hb hg in_RC hown hK hP 0 rfl rfl 2 (by decide) (hg _ k260) (fun _ h9 => h9) rfl d_RC_model_15 ?_
      refine lv_bipush (v := 8) hx hb d_RC_model_18 (by decide) ?_
      refine lv_icmp_lt (tgt := 26) hx hb d_RC_model_20 (by decide) (fun c_3 => ?_) (fun c_3 => ?_)
      · refine va_new (ci := 8) (fs := [Value.null, Value.null, Value.null]) (C := "RangeCoders$Model") (T := T_Model) (N := 3) hx hb hg in_Model t_Model o_Model hown (hg _ k25) (hg _ k287) (hg _ k13) hK hP hD hS hA rfl (fun j hj => by rcases (show j = 0 ∨ j = 1 ∨ j = 2 by omega) with rfl | rfl | rfl <;> rfl) (by rw [hR]; exact (show 0 + 1 ≤ 1600 by omega)) (by rw [hR]; exact (show 0 + 3 ≤ 1600 by omega)) d_RC_model_26 (fun q_4 H hP hD hS => ?_)
        have hPD : my_PD (dC, dI) vwCl A [(rc, Sum.inr (6, [Value.ref co, Value.ref ma, Value.int (nI k), Value.int fit, Value.int fen, Value.int frd, Value.int fbd, Value.int fir])), (ma, Sum.inl (cM, 8, Sum.inr (Sum.inr (Sum.inr (Sum.inr mf))))), (co, Sum.inr (1, [Value.int xcache, Value.int xpending, Value.long xlow, Value.long xrange, Value.long xcode, Value.long xreadLow, Value.long xreadRange, Value.ref ri, Value.ref ro, Value.ref rw, Value.int xasked])), (q_4, Sum.inr (8, [Value.null, Value.null, Value.null]))] H := ⟨hP, hD⟩
        have hP := hPD.1
        have hD := hPD.2
        refine lv_dup hx hb d_RC_model_29 rfl ?_
        refine lv_iload_n hx hb d_RC_model_30 rfl (lv_at hl 1 rfl) ?_
        refine lv_aload_n hx hb d_RC_model_31 rfl (lv_at hl 0 rfl) ?_
        refine va_get (D := (dC, dI)) (ci := 6) (v := .ref co) (C := "RangeCoders") (T := T_RC) (N := 8) hx hb hg in_RC hown hK hP 0 rfl rfl 0 (by decide) (hg _ k258) (fun _ h9 => h9) rfl d_RC_model_32 ?_
        refine lv_iload_n hx hb d_RC_model_35 rfl (lv_at hl 1 rfl) ?_
        refine my_cqg (wr := [(rc, Sum.inr (6, [Value.ref co, Value.ref ma, Value.int (nI k), Value.int fit, Value.int fen, Value.int frd, Value.int fbd, Value.int fir])), (ma, Sum.inl (cM, 8, Sum.inr (Sum.inr (Sum.inr (Sum.inr mf))))), (q_4, Sum.inr (8, [Value.null, Value.null, Value.null]))]) (va_runU (As := [Value.int (nI nS)]) (rest := [Value.int (nI nS), Value.ref q_4, Value.ref q_4]) ⟨hx, hb, hml, hown, hts⟩ (f_Carries_newOdds l dC dI cI cM cO H.size (hSl H) co xcache xpending xlow xrange xcode xreadLow xreadRange ri ro rw xasked nS (by first | assumption | omega) (by first | assumption | omega)) (va_cwU 1 hts (my_gU k288 k290 k322 k289 k3 k330) rfl rfl rfl rfl (by decide +kernel) ⟨by rw [hR]; exact Nat.le_of_ble_eq_true rfl, by rw [hR]; exact Nat.le_of_ble_eq_true rfl⟩) (my_preVg hK hN (hP.sub [2] rfl) (hD.sub [2] (by decide +kernel) rfl) 0 rfl rfl) rfl rfl hl.1 rfl (lv_room (Nat.le_of_ble_eq_true rfl)) d_RC_model_36 ⟨by rw [hR]; exact (show (0 + 1) + 700 ≤ 1600 by omega), by rw [hR]; exact (show (0 + 3) + 700 ≤ 1600 by omega)⟩) hP hD hS hA [2] [0, 1, 3] rfl rfl (by decide +kernel) (by decide +kernel) (fun r_36 u9 d_36 H locs hd_36 hw_36 hP hD hS => ?_)
        obtain ⟨zo_36, zca_36, zpa_36⟩ := u9
        have hr_36 : r_36 = some zo_36 := hw_36
        have hd_36 : d_36 + 0 ≤ 700 := hd_36
        have hPD : my_PD (dC, dI) vwCl A [(rc, Sum.inr (6, [Value.ref co, Value.ref ma, Value.int (nI k), Value.int fit, Value.int fen, Value.int frd, Value.int fbd, Value.int fir])), (ma, Sum.inl (cM, 8, Sum.inr (Sum.inr (Sum.inr (Sum.inr mf))))), (q_4, Sum.inr (8, [Value.null, Value.null, Value.null])), (co, Sum.inr (1, [Value.int xcache, Value.int xpending, Value.long xlow, Value.long xrange, Value.long xcode, Value.long xreadLow, Value.long xreadRange, Value.ref ri, Value.ref ro, Value.ref rw, Value.int xasked])), (zo_36, Sum.inr (7, [Value.int (nI nS), Value.int 0, Value.int 0, Value.ref zca_36, Value.ref zpa_36])), (zca_36, Sum.inl (cI, nS, Sum.inl (fun _ => 0))), (zpa_36, Sum.inl (cI, 0, Sum.inl (fun _ => 0)))] H := ⟨hP, hD⟩
        have hP := hPD.1
        have hD := hPD.2
        subst hr_36
        refine W.eq (g2 := F0 m 39 ls [Value.ref zo_36, Value.int (nI nS), Value.ref q_4, Value.ref q_4]) rfl ?_
        refine lv_aload_n hx hb d_RC_model_39 rfl (lv_at hl 0 rfl) ?_
        refine va_get (D := (dC, dI)) (ci := 6) (v := .ref co) (C := "RangeCoders") (T := T_RC) (N := 8) hx hb hg in_RC hown hK hP 0 rfl rfl 0 (by decide) (hg _ k258) (fun _ h9 => h9) rfl d_RC_model_40 ?_
        refine lv_iload_n hx hb d_RC_model_43 rfl (lv_at hl 1 rfl) ?_
        refine my_cqg (wr := [(rc, Sum.inr (6, [Value.ref co, Value.ref ma, Value.int (nI k), Value.int fit, Value.int fen, Value.int frd, Value.int fbd, Value.int fir])), (ma, Sum.inl (cM, 8, Sum.inr (Sum.inr (Sum.inr (Sum.inr mf))))), (q_4, Sum.inr (8, [Value.null, Value.null, Value.null])), (zo_36, Sum.inr (7, [Value.int (nI nS), Value.int 0, Value.int 0, Value.ref zca_36, Value.ref zpa_36])), (zca_36, Sum.inl (cI, nS, Sum.inl (fun _ => 0))), (zpa_36, Sum.inl (cI, 0, Sum.inl (fun _ => 0)))]) (va_runU (As := [Value.int (nI nS)]) (rest := [Value.ref zo_36, Value.int (nI nS), Value.ref q_4, Value.ref q_4]) ⟨hx, hb, hml, hown, hts⟩ (f_Carries_newOdds l dC dI cI cM cO H.size (hSl H) co xcache xpending xlow xrange xcode xreadLow xreadRange ri ro rw xasked nS (by first | assumption | omega) (by first | assumption | omega)) (va_cwU 1 hts (my_gU k288 k290 k322 k289 k3 k330) rfl rfl rfl rfl (by decide +kernel) ⟨by rw [hR]; exact Nat.le_of_ble_eq_true rfl, by rw [hR]; exact Nat.le_of_ble_eq_true rfl⟩) (my_preVg hK hN (hP.sub [3] rfl) (hD.sub [3] (by decide +kernel) rfl) 0 rfl rfl) rfl rfl hl.1 rfl (lv_room (Nat.le_of_ble_eq_true rfl)) d_RC_model_44 ⟨by rw [hR]; exact (show (0 + 1 + d_36) + 700 ≤ 1600 by omega), by rw [hR]; exact (show (0 + 3 + d_36) + 700 ≤ 1600 by omega)⟩) hP hD hS hA [3] [0, 1, 2, 4, 5, 6] rfl rfl (by decide +kernel) (by decide +kernel) (fun r_44 u9 d_44 H locs hd_44 hw_44 hP hD hS => ?_)
        obtain ⟨zo_44, zca_44, zpa_44⟩ := u9
        have hr_44 : r_44 = some zo_44 := hw_44
        have hd_44 : d_44 + 0 ≤ 700 := hd_44
        have hPD : my_PD (dC, dI) vwCl A [(rc, Sum.inr (6, [Value.ref co, Value.ref ma, Value.int (nI k), Value.int fit, Value.int fen, Value.int frd, Value.int fbd, Value.int fir])), (ma, Sum.inl (cM, 8, Sum.inr (Sum.inr (Sum.inr (Sum.inr mf))))), (q_4, Sum.inr (8, [Value.null, Value.null, Value.null])), (zo_36, Sum.inr (7, [Value.int (nI nS), Value.int 0, Value.int 0, Value.ref zca_36, Value.ref zpa_36])), (zca_36, Sum.inl (cI, nS, Sum.inl (fun _ => 0))), (zpa_36, Sum.inl (cI, 0, Sum.inl (fun _ => 0))), (co, Sum.inr (1, [Value.int xcache, Value.int xpending, Value.long xlow, Value.long xrange, Value.long xcode, Value.long xreadLow, Value.long xreadRange, Value.ref ri, Value.ref ro, Value.ref rw, Value.int xasked])), (zo_44, Sum.inr (7, [Value.int (nI nS), Value.int 0, Value.int 0, Value.ref zca_44, Value.ref zpa_44])), (zca_44, Sum.inl (cI, nS, Sum.inl (fun _ => 0))), (zpa_44, Sum.inl (cI, 0, Sum.inl (fun _ => 0)))] H := ⟨hP, hD⟩
        have hP := hPD.1
        have hD := hPD.2
        subst hr_44
        refine W.eq (g2 := F0 m 47 ls [Value.ref zo_44, Value.ref zo_36, Value.int (nI nS), Value.ref q_4, Value.ref q_4]) rfl ?_
        refine my_cvg (wr := [(rc, Sum.inr (6, [Value.ref co, Value.ref ma, Value.int (nI k), Value.int fit, Value.int fen, Value.int frd, Value.int fbd, Value.int fir])), (ma, Sum.inl (cM, 8, Sum.inr (Sum.inr (Sum.inr (Sum.inr mf))))), (zo_36, Sum.inr (7, [Value.int (nI nS), Value.int 0, Value.int 0, Value.ref zca_36, Value.ref zpa_36])), (zca_36, Sum.inl (cI, nS, Sum.inl (fun _ => 0))), (zpa_36, Sum.inl (cI, 0, Sum.inl (fun _ => 0))), (co, Sum.inr (1, [Value.int xcache, Value.int xpending, Value.long xlow, Value.long xrange, Value.long xcode, Value.long xreadLow, Value.long xreadRange, Value.ref ri, Value.ref ro, Value.ref rw, Value.int xasked])), (zo_44, Sum.inr (7, [Value.int (nI nS), Value.int 0, Value.int 0, Value.ref zca_44, Value.ref zpa_44])), (zca_44, Sum.inl (cI, nS, Sum.inl (fun _ => 0))), (zpa_44, Sum.inl (cI, 0, Sum.inl (fun _ => 0)))]) (va_runI (As := [Value.int (nI nS), Value.ref zo_36, Value.ref zo_44]) (rest := [Value.ref q_4]) ⟨hx, hb, hml, hown, hts⟩ (f_Model_init l dC dI cI cM cO H.size (hSl H) q_4 nS zo_36 zo_44 (by first | assumption | omega)) (cwI 3 hts (my_gC k335) rfl rfl rfl (hg _ k13) (hg _ k333) (hg _ k334) rfl (by decide +kernel) ⟨by rw [hR]; exact Nat.le_of_ble_eq_true rfl, by rw [hR]; exact Nat.le_of_ble_eq_true rfl⟩) (my_preg (As := [Value.ref q_4, Value.int (nI nS), Value.ref zo_36, Value.ref zo_44]) hK hN (hP.sub [2] rfl) (hD.sub [2] (by decide +kernel) rfl)) rfl rfl hl.1 rfl (lv_room (Nat.le_of_ble_eq_true rfl)) d_RC_model_47 ⟨by rw [hR]; exact (show (0 + 1 + d_36 + d_44) + 100 ≤ 1600 by omega), by rw [hR]; exact (show (0 + 3 + d_36 + d_44) + 100 ≤ 1600 by omega)⟩) hP hD hS hA [2] [0, 1, 3, 4, 5, 6, 7, 8, 9] rfl rfl (by decide +kernel) (by decide +kernel) (fun u9 d_47 H locs hd_47 hw_47 hP hD hS => ?_)
        obtain ⟨zk_47, zkf_47⟩ := u9
        have hf_47 : tbI zkf_47 nS (fun _ => 1) := hw_47
        have hd_47 : d_47 + 0 ≤ 100 := hd_47
        have hPD : my_PD (dC, dI) vwCl A [(rc, Sum.inr (6, [Value.ref co, Value.ref ma, Value.int (nI k), Value.int fit, Value.int fen, Value.int frd, Value.int fbd, Value.int fir])), (ma, Sum.inl (cM, 8, Sum.inr (Sum.inr (Sum.inr (Sum.inr mf))))), (zo_36, Sum.inr (7, [Value.int (nI nS), Value.int 0, Value.int 0, Value.ref zca_36, Value.ref zpa_36])), (zca_36, Sum.inl (cI, nS, Sum.inl (fun _ => 0))), (zpa_36, Sum.inl (cI, 0, Sum.inl (fun _ => 0))), (co, Sum.inr (1, [Value.int xcache, Value.int xpending, Value.long xlow, Value.long xrange, Value.long xcode, Value.long xreadLow, Value.long xreadRange, Value.ref ri, Value.ref ro, Value.ref rw, Value.int xasked])), (zo_44, Sum.inr (7, [Value.int (nI nS), Value.int 0, Value.int 0, Value.ref zca_44, Value.ref zpa_44])), (zca_44, Sum.inl (cI, nS, Sum.inl (fun _ => 0))), (zpa_44, Sum.inl (cI, 0, Sum.inl (fun _ => 0))), (q_4, Sum.inr (8, [Value.ref zk_47, Value.ref zo_36, Value.ref zo_44])), (zk_47, Sum.inl (cI, nS, Sum.inl zkf_47))] H := ⟨hP, hD⟩
        have hP := hPD.1
        have hD := hPD.2
        refine lv_astore_n (lv' := [(2, Value.ref q_4), (0, Value.ref rc), (1, Value.int (nI nS))]) hx hb d_RC_model_50 rfl hl (by decide) rfl (fun ls hl => ?_)
        refine lv_aload_n hx hb d_RC_model_51 rfl (lv_at hl 1 rfl) ?_
        refine va_get (D := (dC, dI)) (ci := 6) (v := .ref co) (C := "RangeCoders") (T := T_RC) (N := 8) hx hb hg in_RC hown hK hP 0 rfl rfl 0 (by decide) (hg _ k258) (fun _ h9 => h9) rfl d_RC_model_52 ?_
        refine lv_aload_n hx hb d_RC_model_55 rfl (lv_at hl 0 rfl) ?_
        refine va_get (D := (dC, dI)) (ci := 8) (v := .ref zo_36) (C := "RangeCoders$Model") (T := T_Model) (N := 3) hx hb hg in_Model hown hK hP 9 rfl rfl 1 (by decide) (hg _ k343) (fun _ h9 => h9) rfl d_RC_model_56 ?_
        refine lv_aload_n hx hb d_RC_model_59 rfl (lv_at hl 0 rfl) ?_
        refine va_get (D := (dC, dI)) (ci := 8) (v := .ref zk_47) (C := "RangeCoders$Model") (T := T_Model) (N := 3) hx hb hg in_Model hown hK hP 9 rfl rfl 0 (by decide) (hg _ k341) (fun _ h9 => h9) rfl d_RC_model_60 ?_
        refine my_cv (wr := [(rc, Sum.inr (6, [Value.ref co, Value.ref ma, Value.int (nI k), Value.int fit, Value.int fen, Value.int frd, Value.int fbd, Value.int fir])), (ma, Sum.inl (cM, 8, Sum.inr (Sum.inr (Sum.inr (Sum.inr mf))))), (zo_44, Sum.inr (7, [Value.int (nI nS), Value.int 0, Value.int 0, Value.ref zca_44, Value.ref zpa_44])), (zca_44, Sum.inl (cI, nS, Sum.inl (fun _ => 0))), (zpa_44, Sum.inl (cI, 0, Sum.inl (fun _ => 0))), (q_4, Sum.inr (8, [Value.ref zk_47, Value.ref zo_36, Value.ref zo_44]))]) (va_runU (As := [Value.ref zo_36, Value.ref zk_47]) (rest := []) ⟨hx, hb, hml, hown, hts⟩ (f_Carries_prepare l dC dI cI cM cO H.size co xcache xpending xlow xrange xcode xreadLow xreadRange ri ro rw xasked zo_36 (nI nS) 0 zca_36 zpa_36 nS (fun _ => 0) 0 (fun _ => 0) 0 zk_47 zkf_47 (fun _ => 1) (hns) (by decide) (hf_47) (hb1)) (va_cwA 2 hts (my_gU k353 k355 k364 k365 k4 k366) rfl rfl rfl (hN.1 _ j354 rfl) (by decide +kernel) ⟨by rw [hR]; exact Nat.le_of_ble_eq_true rfl, by rw [hR]; exact Nat.le_of_ble_eq_true rfl⟩) (my_preV hK hN (hP.sub [5, 2, 3, 4, 10] rfl) (hD.sub [5, 2, 3, 4, 10] (by decide +kernel) rfl) 0 rfl rfl) rfl rfl hl.1 rfl (lv_room (Nat.le_of_ble_eq_true rfl)) d_RC_model_63 ⟨by rw [hR]; exact (show (0 + 1 + d_36 + d_44 + d_47) + 0 ≤ 1600 by omega), by rw [hR]; exact (show (0 + 3 + d_36 + d_44 + d_47) + 0 ≤ 1600 by omega)⟩) hP hD hS hA [5, 2, 3, 4, 10] [0, 1, 6, 7, 8, 9] rfl rfl (by decide +kernel) (by decide +kernel) (fun u9 H locs hw_63 hP hD hS => ?_)
        obtain ⟨ocfq_63, rfl⟩ : ∃ z, z = u9 := ⟨_, rfl⟩
        have hf_63 : tbI ocfq_63 nS (les nS (fun _ => 1)) := hw_63
        have hPD : my_PD (dC, dI) vwCl A [(rc, Sum.inr (6, [Value.ref co, Value.ref ma, Value.int (nI k), Value.int fit, Value.int fen, Value.int frd, Value.int fbd, Value.int fir])), (ma, Sum.inl (cM, 8, Sum.inr (Sum.inr (Sum.inr (Sum.inr mf))))), (zo_44, Sum.inr (7, [Value.int (nI nS), Value.int 0, Value.int 0, Value.ref zca_44, Value.ref zpa_44])), (zca_44, Sum.inl (cI, nS, Sum.inl (fun _ => 0))), (zpa_44, Sum.inl (cI, 0, Sum.inl (fun _ => 0))), (q_4, Sum.inr (8, [Value.ref zk_47, Value.ref zo_36, Value.ref zo_44])), (co, Sum.inr (1, [Value.int xcache, Value.int xpending, Value.long xlow, Value.long xrange, Value.long xcode, Value.long xreadLow, Value.long xreadRange, Value.ref ri, Value.ref ro, Value.ref rw, Value.int xasked])), (zo_36, Sum.inr (7, [Value.int (nI nS), Value.int (nI (ns (les nS (fun _ => 1)) nS)), Value.int 0, Value.ref zca_36, Value.ref zpa_36])), (zca_36, Sum.inl (cI, nS, Sum.inl ocfq_63)), (zpa_36, Sum.inl (cI, 0, Sum.inl (fun _ => 0))), (zk_47, Sum.inl (cI, nS, Sum.inl zkf_47))] H := ⟨hP, hD⟩
        have hP := hPD.1
        have hD := hPD.2
        refine lv_aload_n hx hb d_RC_model_66 rfl (lv_at hl 1 rfl) ?_
        refine va_get (D := (dC, dI)) (ci := 6) (v := .ref co) (C := "RangeCoders") (T := T_RC) (N := 8) hx hb hg in_RC hown hK hP 0 rfl rfl 0 (by decide) (hg _ k258) (fun _ h9 => h9) rfl d_RC_model_67 ?_
        refine lv_aload_n hx hb d_RC_model_70 rfl (lv_at hl 0 rfl) ?_
        refine va_get (D := (dC, dI)) (ci := 8) (v := .ref zo_44) (C := "RangeCoders$Model") (T := T_Model) (N := 3) hx hb hg in_Model hown hK hP 5 rfl rfl 2 (by decide) (hg _ k345) (fun _ h9 => h9) rfl d_RC_model_71 ?_
        refine lv_aload_n hx hb d_RC_model_74 rfl (lv_at hl 0 rfl) ?_
        refine va_get (D := (dC, dI)) (ci := 8) (v := .ref zk_47) (C := "RangeCoders$Model") (T := T_Model) (N := 3) hx hb hg in_Model hown hK hP 5 rfl rfl 0 (by decide) (hg _ k341) (fun _ h9 => h9) rfl d_RC_model_75 ?_
        refine my_cv (wr := [(rc, Sum.inr (6, [Value.ref co, Value.ref ma, Value.int (nI k), Value.int fit, Value.int fen, Value.int frd, Value.int fbd, Value.int fir])), (ma, Sum.inl (cM, 8, Sum.inr (Sum.inr (Sum.inr (Sum.inr mf))))), (q_4, Sum.inr (8, [Value.ref zk_47, Value.ref zo_36, Value.ref zo_44])), (zo_36, Sum.inr (7, [Value.int (nI nS), Value.int (nI (ns (les nS (fun _ => 1)) nS)), Value.int 0, Value.ref zca_36, Value.ref zpa_36])), (zca_36, Sum.inl (cI, nS, Sum.inl ocfq_63)), (zpa_36, Sum.inl (cI, 0, Sum.inl (fun _ => 0)))]) (va_runU (As := [Value.ref zo_44, Value.ref zk_47]) (rest := []) ⟨hx, hb, hml, hown, hts⟩ (f_Carries_prepare l dC dI cI cM cO H.size co xcache xpending xlow xrange xcode xreadLow xreadRange ri ro rw xasked zo_44 (nI nS) 0 zca_44 zpa_44 nS (fun _ => 0) 0 (fun _ => 0) 0 zk_47 zkf_47 (fun _ => 1) (hns) (by decide) (hf_47) (hb1)) (va_cwA 2 hts (my_gU k353 k355 k364 k365 k4 k366) rfl rfl rfl (hN.1 _ j354 rfl) (by decide +kernel) ⟨by rw [hR]; exact Nat.le_of_ble_eq_true rfl, by rw [hR]; exact Nat.le_of_ble_eq_true rfl⟩) (my_preV hK hN (hP.sub [6, 2, 3, 4, 10] rfl) (hD.sub [6, 2, 3, 4, 10] (by decide +kernel) rfl) 0 rfl rfl) rfl rfl hl.1 rfl (lv_room (Nat.le_of_ble_eq_true rfl)) d_RC_model_78 ⟨by rw [hR]; exact (show (0 + 1 + d_36 + d_44 + d_47) + 0 ≤ 1600 by omega), by rw [hR]; exact (show (0 + 3 + d_36 + d_44 + d_47) + 0 ≤ 1600 by omega)⟩) hP hD hS hA [6, 2, 3, 4, 10] [0, 1, 5, 7, 8, 9] rfl rfl (by decide +kernel) (by decide +kernel) (fun u9 H locs hw_78 hP hD hS => ?_)
        obtain ⟨ocfq_78, rfl⟩ : ∃ z, z = u9 := ⟨_, rfl⟩
        have hf_78 : tbI ocfq_78 nS (les nS (fun _ => 1)) := hw_78
        have hPD : my_PD (dC, dI) vwCl A [(rc, Sum.inr (6, [Value.ref co, Value.ref ma, Value.int (nI k), Value.int fit, Value.int fen, Value.int frd, Value.int fbd, Value.int fir])), (ma, Sum.inl (cM, 8, Sum.inr (Sum.inr (Sum.inr (Sum.inr mf))))), (q_4, Sum.inr (8, [Value.ref zk_47, Value.ref zo_36, Value.ref zo_44])), (zo_36, Sum.inr (7, [Value.int (nI nS), Value.int (nI (ns (les nS (fun _ => 1)) nS)), Value.int 0, Value.ref zca_36, Value.ref zpa_36])), (zca_36, Sum.inl (cI, nS, Sum.inl ocfq_63)), (zpa_36, Sum.inl (cI, 0, Sum.inl (fun _ => 0))), (co, Sum.inr (1, [Value.int xcache, Value.int xpending, Value.long xlow, Value.long xrange, Value.long xcode, Value.long xreadLow, Value.long xreadRange, Value.ref ri, Value.ref ro, Value.ref rw, Value.int xasked])), (zo_44, Sum.inr (7, [Value.int (nI nS), Value.int (nI (ns (les nS (fun _ => 1)) nS)), Value.int 0, Value.ref zca_44, Value.ref zpa_44])), (zca_44, Sum.inl (cI, nS, Sum.inl ocfq_78)), (zpa_44, Sum.inl (cI, 0, Sum.inl (fun _ => 0))), (zk_47, Sum.inl (cI, nS, Sum.inl zkf_47))] H := ⟨hP, hD⟩
        have hP := hPD.1
        have hD := hPD.2
        refine lv_aload_n hx hb d_RC_model_81 rfl (lv_at hl 1 rfl) ?_
        refine va_get (D := (dC, dI)) (ci := 6) (v := .ref ma) (C := "RangeCoders") (T := T_RC) (N := 8) hx hb hg in_RC hown hK hP 0 rfl rfl 1 (by decide) (hg _ k259) (fun _ h9 => h9) rfl d_RC_model_82 ?_
        refine lv_aload_n hx hb d_RC_model_85 rfl (lv_at hl 1 rfl) ?_
        refine va_get (D := (dC, dI)) (ci := 6) (v := .int (nI k)) (C := "RangeCoders") (T := T_RC) (N := 8) hx hb hg in_RC hown hK hP 0 rfl rfl 2 (by decide) (hg _ k260) (fun _ h9 => h9) rfl d_RC_model_86 ?_
        refine lv_aload_n hx hb d_RC_model_89 rfl (lv_at hl 0 rfl) ?_
        refine va_astq hx hb hK hP hD hS 1 1 2 8 rfl rfl rfl rfl (vp_in_nI hk (by decide)) d_RC_model_90 (fun H locs hP hD hS => ?_)
        have hPD : my_PD (dC, dI) vwCl A [(rc, Sum.inr (6, [Value.ref co, Value.ref ma, Value.int (nI k), Value.int fit, Value.int fen, Value.int frd, Value.int fbd, Value.int fir])), (ma, Sum.inl (cM, 8, Sum.inr (Sum.inr (Sum.inr (Sum.inr (va_up mf (nI k).toNatClampNeg (some q_4))))))), (q_4, Sum.inr (8, [Value.ref zk_47, Value.ref zo_36, Value.ref zo_44])), (zo_36, Sum.inr (7, [Value.int (nI nS), Value.int (nI (ns (les nS (fun _ => 1)) nS)), Value.int 0, Value.ref zca_36, Value.ref zpa_36])), (zca_36, Sum.inl (cI, nS, Sum.inl ocfq_63)), (zpa_36, Sum.inl (cI, 0, Sum.inl (fun _ => 0))), (co, Sum.inr (1, [Value.int xcache, Value.int xpending, Value.long xlow, Value.long xrange, Value.long xcode, Value.long xreadLow, Value.long xreadRange, Value.ref ri, Value.ref ro, Value.ref rw, Value.int xasked])), (zo_44, Sum.inr (7, [Value.int (nI nS), Value.int (nI (ns (les nS (fun _ => 1)) nS)), Value.int 0, Value.ref zca_44, Value.ref zpa_44])), (zca_44, Sum.inl (cI, nS, Sum.inl ocfq_78)), (zpa_44, Sum.inl (cI, 0, Sum.inl (fun _ => 0))), (zk_47, Sum.inl (cI, nS, Sum.inl zkf_47))] H := ⟨hP, hD⟩
        have hP := hPD.1
        have hD := hPD.2
        rw [nI_clamp (show k < 2 ^ 31 by omega)] at hP hD
        refine lv_aload_n hx hb d_RC_model_91 rfl (lv_at hl 1 rfl) ?_
        refine lv_dup hx hb d_RC_model_92 rfl ?_
        refine va_get (D := (dC, dI)) (ci := 6) (v := .int (nI k)) (C := "RangeCoders") (T := T_RC) (N := 8) hx hb hg in_RC hown hK hP 0 rfl rfl 2 (by decide) (hg _ k260) (fun _ h9 => h9) rfl d_RC_model_93 ?_
        refine lv_iconst (v := 1) hx hb d_RC_model_96 (by decide) ?_
        refine lv_iadd hx hb d_RC_model_97 ?_
        refine lv_topi (fun v_5 ev_5 => ?_)
        have z9 : v_5 = nI (k + 1) := by subst_vars; exact nI_1 _
        subst z9
        refine va_put (D := (dC, dI)) (ci := 6) (v := .int (nI (k + 1))) (ty := .int) (C := "RangeCoders") (T := T_RC) (N := 8) hx hb hg in_RC t_RC o_RC n_RC hown hK hP hD hS 0 rfl rfl 2 (by decide) (hg _ k260) (fun _ h9 => h9) rfl (o_RC 2 (by decide)) rfl rfl (Nat.le_of_ble_eq_true rfl) d_RC_model_98 (fun H locs hP hD hS => ?_)
        have hPD : my_PD (dC, dI) vwCl A [(rc, Sum.inr (6, [Value.ref co, Value.ref ma, Value.int (nI (k + 1)), Value.int fit, Value.int fen, Value.int frd, Value.int fbd, Value.int fir])), (ma, Sum.inl (cM, 8, Sum.inr (Sum.inr (Sum.inr (Sum.inr (va_up mf k (some q_4))))))), (q_4, Sum.inr (8, [Value.ref zk_47, Value.ref zo_36, Value.ref zo_44])), (zo_36, Sum.inr (7, [Value.int (nI nS), Value.int (nI (ns (les nS (fun _ => 1)) nS)), Value.int 0, Value.ref zca_36, Value.ref zpa_36])), (zca_36, Sum.inl (cI, nS, Sum.inl ocfq_63)), (zpa_36, Sum.inl (cI, 0, Sum.inl (fun _ => 0))), (co, Sum.inr (1, [Value.int xcache, Value.int xpending, Value.long xlow, Value.long xrange, Value.long xcode, Value.long xreadLow, Value.long xreadRange, Value.ref ri, Value.ref ro, Value.ref rw, Value.int xasked])), (zo_44, Sum.inr (7, [Value.int (nI nS), Value.int (nI (ns (les nS (fun _ => 1)) nS)), Value.int 0, Value.ref zca_44, Value.ref zpa_44])), (zca_44, Sum.inl (cI, nS, Sum.inl ocfq_78)), (zpa_44, Sum.inl (cI, 0, Sum.inl (fun _ => 0))), (zk_47, Sum.inl (cI, nS, Sum.inl zkf_47))] H := ⟨hP, hD⟩
        have hP := hPD.1
        have hD := hPD.2
        refine lv_aload_n hx hb d_RC_model_101 rfl (lv_at hl 1 rfl) ?_
        refine va_get (D := (dC, dI)) (ci := 6) (v := .int (nI (k + 1))) (C := "RangeCoders") (T := T_RC) (N := 8) hx hb hg in_RC hown hK hP 0 rfl rfl 2 (by decide) (hg _ k260) (fun _ h9 => h9) rfl d_RC_model_102 ?_
        refine lv_iconst (v := 1) hx hb d_RC_model_105 (by decide) ?_
        refine lv_isub hx hb d_RC_model_106 ?_
        refine lv_topi (fun v_6 ev_6 => ?_)
        exact my_iretg (v := v_6) hx hb hr (rfl) hlocks hQ hK hS (q_4, zk_47, zkf_47, zo_36, zca_36, zpa_36, ocfq_63, zo_44, zca_44, zpa_44, ocfq_78) (show (0 + 1 + d_36 + d_44 + d_47) + 0 ≤ 1600 by omega) (show (0 + 3 + d_36 + d_44 + d_47) + 0 ≤ 1600 by omega) (⟨by subst_vars; exact nI_pred k, hf_47, hf_63, hf_78⟩) (hP.sub [0, 1, 6, 2, 10, 3, 4, 5, 7, 8, 9] rfl) (hD.sub [0, 1, 6, 2, 10, 3, 4, 5, 7, 8, 9] (by decide +kernel) rfl) d_RC_model_107
      · exact absurd (show nI k < nI 8 from nI_lt hk (by omega)) c_3
    · exact absurd (show nI nS ≤ nI 64 from nI_le hns (by omega)) c_2
set_option maxHeartbeats 2000000 in
set_option maxRecDepth 100000 in
theorem f_RC_modelB_NoCarries (l : Launch) (dC : Nat → ClassId) (dI : Nat → Nat → Nat) (cI cM cO : ClassId) (sz : Nat) (sl : Nat) (rc : Nat) (ma : Nat) (k : Nat) (fit : Int32) (fen : Int32) (frd : Int32) (fbd : Int32) (fir : Int32) (mf : Nat → Option Nat) (co : Nat) (xlow : Int64) (xrange : Int64) (xcode : Int64) (xreadLow : Int64) (xreadRange : Int64) (ri : Nat) (ro : Nat) (rw : Nat) (xasked : Int32) (nS : Nat) (hns2 : 2 ≤ nS) (hns : nS ≤ 64) (hk : k < 8) : MetIg l y_RC_model (Cond.code y_RC_model prog_1_method_2_code 3 (some .int) :: gw) ({ frames := 3, cells := 1600, slots := 1600, locals := 66 } : Room) (dC, dI) vwCl (kT cI cM cO) [Value.ref rc, Value.int (nI nS)] [(rc, Sum.inr (6, [Value.ref co, Value.ref ma, Value.int (nI k), Value.int fit, Value.int fen, Value.int frd, Value.int fbd, Value.int fir])), (ma, Sum.inl (cM, 8, Sum.inr (Sum.inr (Sum.inr (Sum.inr mf))))), (co, Sum.inr (2, [Value.long xlow, Value.long xrange, Value.long xcode, Value.long xreadLow, Value.long xreadRange, Value.ref ri, Value.ref ro, Value.ref rw, Value.int xasked]))] sz sl (fun (r : Int32) (u : Nat × Nat × (Nat → Int32) × Nat × Nat × Nat × (Nat → Int32) × Nat × Nat × Nat × (Nat → Int32)) => r = nI k ∧ tbI u.2.2.1 nS (fun _ => 1) ∧ tbI u.2.2.2.2.2.2.1 nS (les nS (fun _ => 1)) ∧ tbI u.2.2.2.2.2.2.2.2.2.2 nS (les nS (fun _ => 1))) (fun (u : Nat × Nat × (Nat → Int32) × Nat × Nat × Nat × (Nat → Int32) × Nat × Nat × Nat × (Nat → Int32)) => [(rc, Sum.inr (6, [Value.ref co, Value.ref ma, Value.int (nI (k + 1)), Value.int fit, Value.int fen, Value.int frd, Value.int fbd, Value.int fir])), (ma, Sum.inl (cM, 8, Sum.inr (Sum.inr (Sum.inr (Sum.inr (va_up mf k (some u.1))))))), (co, Sum.inr (2, [Value.long xlow, Value.long xrange, Value.long xcode, Value.long xreadLow, Value.long xreadRange, Value.ref ri, Value.ref ro, Value.ref rw, Value.int xasked])), (u.1, Sum.inr (8, [Value.ref u.2.1, Value.ref u.2.2.2.1, Value.ref u.2.2.2.2.2.2.2.1])), (u.2.1, Sum.inl (cI, nS, Sum.inl u.2.2.1)), (u.2.2.2.1, Sum.inr (7, [Value.int (nI nS), Value.int (nI (ns (les nS (fun _ => 1)) nS)), Value.int 0, Value.ref u.2.2.2.2.1, Value.ref u.2.2.2.2.2.1])), (u.2.2.2.2.1, Sum.inl (cI, nS, Sum.inl u.2.2.2.2.2.2.1)), (u.2.2.2.2.2.1, Sum.inl (cI, 0, Sum.inl (fun _ => 0))), (u.2.2.2.2.2.2.2.1, Sum.inr (7, [Value.int (nI nS), Value.int (nI (ns (les nS (fun _ => 1)) nS)), Value.int 0, Value.ref u.2.2.2.2.2.2.2.2.1, Value.ref u.2.2.2.2.2.2.2.2.2.1])), (u.2.2.2.2.2.2.2.2.1, Sum.inl (cI, nS, Sum.inl u.2.2.2.2.2.2.2.2.2.2)), (u.2.2.2.2.2.2.2.2.2.1, Sum.inl (cI, 0, Sum.inl (fun _ => 0)))]) 1600 (fun (u : Nat × Nat × (Nat → Int32) × Nat × Nat × Nat × (Nat → Int32) × Nat × Nat × Nat × (Nat → Int32)) => 0) := by
  refine my_ofIg (cc := prog_1_method_2_code) (n := 3) (ret := (some .int)) (by decide) rfl (Nat.le_of_ble_eq_true rfl) ?_
  intro p e s m args below meth c R Q A ls H locs hx hb hr hts hown hlocks hml hnm hR hQ hA hl hP hK hN hD hS
  have hg : ∀ w ∈ gw, w.before args s = true := fun w h => hts w (List.mem_cons_of_mem _ h)
  have hown : s.vm.findClass "RangeCoders" = some m.cls := hown
  have hl : lv_has ls 3 [(0, Value.ref rc), (1, Value.int (nI nS))] := hl
  have hb1 : bd (fun _ => 1) nS 4095 := fun _ _ => (by decide : 1 ≤ 4095)
  have hlv6 := lev_63 nS
  refine lv_iload_n hx hb d_RC_model_0 rfl (lv_at hl 1 rfl) ?_
  refine lv_iconst (v := 2) hx hb d_RC_model_1 (by decide) ?_
  refine lv_icmp_lt (tgt := 11) hx hb d_RC_model_2 (by decide) (fun c_1 => ?_) (fun c_1 => ?_)
  · exact absurd c_1 (show ¬ nI nS < nI 2 from nI_nlt hns2 (by omega))
  · refine lv_iload_n hx hb d_RC_model_5 rfl (lv_at hl 1 rfl) ?_
    refine lv_bipush (v := 64) hx hb d_RC_model_6 (by decide) ?_
    refine lv_icmp_le (tgt := 14) hx hb d_RC_model_8 (by decide) (fun c_2 => ?_) (fun c_2 => ?_)
    · refine lv_aload_n hx hb d_RC_model_14 rfl (lv_at hl 0 rfl) ?_
      refine va_get (D := (dC, dI)) (ci := 6) (v := .int (nI k)) (C := "RangeCoders") (T := T_RC) (N := 8) hx hb hg in_RC hown hK hP 0 rfl rfl 2 (by decide) (hg _ k260) (fun _ h9 => h9) rfl d_RC_model_15 ?_
      refine lv_bipush (v := 8) hx hb d_RC_model_18 (by decide) ?_
      refine lv_icmp_lt (tgt := 26) hx hb d_RC_model_20 (by decide) (fun c_3 => ?_) (fun c_3 => ?_)
      · refine va_new (ci := 8) (fs := [Value.null, Value.null, Value.null]) (C := "RangeCoders$Model") (T := T_Model) (N := 3) hx hb hg in_Model t_Model o_Model hown (hg _ k25) (hg _ k287) (hg _ k13) hK hP hD hS hA rfl (fun j hj => by rcases (show j = 0 ∨ j = 1 ∨ j = 2 by omega) with rfl | rfl | rfl <;> rfl) (by rw [hR]; exact (show 0 + 1 ≤ 1600 by omega)) (by rw [hR]; exact (show 0 + 3 ≤ 1600 by omega)) d_RC_model_26 (fun q_4 H hP hD hS => ?_)
        have hPD : my_PD (dC, dI) vwCl A [(rc, Sum.inr (6, [Value.ref co, Value.ref ma, Value.int (nI k), Value.int fit, Value.int fen, Value.int frd, Value.int fbd, Value.int fir])), (ma, Sum.inl (cM, 8, Sum.inr (Sum.inr (Sum.inr (Sum.inr mf))))), (co, Sum.inr (2, [Value.long xlow, Value.long xrange, Value.long xcode, Value.long xreadLow, Value.long xreadRange, Value.ref ri, Value.ref ro, Value.ref rw, Value.int xasked])), (q_4, Sum.inr (8, [Value.null, Value.null, Value.null]))] H := ⟨hP, hD⟩
        have hP := hPD.1
        have hD := hPD.2
        refine lv_dup hx hb d_RC_model_29 rfl ?_
        refine lv_iload_n hx hb d_RC_model_30 rfl (lv_at hl 1 rfl) ?_
        refine lv_aload_n hx hb d_RC_model_31 rfl (lv_at hl 0 rfl) ?_
        refine va_get (D := (dC, dI)) (ci := 6) (v := .ref co) (C := "RangeCoders") (T := T_RC) (N := 8) hx hb hg in_RC hown hK hP 0 rfl rfl 0 (by decide) (hg _ k258) (fun _ h9 => h9) rfl d_RC_model_32 ?_
        refine lv_iload_n hx hb d_RC_model_35 rfl (lv_at hl 1 rfl) ?_
        refine my_cqg (wr := [(rc, Sum.inr (6, [Value.ref co, Value.ref ma, Value.int (nI k), Value.int fit, Value.int fen, Value.int frd, Value.int fbd, Value.int fir])), (ma, Sum.inl (cM, 8, Sum.inr (Sum.inr (Sum.inr (Sum.inr mf))))), (q_4, Sum.inr (8, [Value.null, Value.null, Value.null]))]) (va_runU (As := [Value.int (nI nS)]) (rest := [Value.int (nI nS), Value.ref q_4, Value.ref q_4]) ⟨hx, hb, hml, hown, hts⟩ (f_NoCarries_newOdds l dC dI cI cM cO H.size (hSl H) co xlow xrange xcode xreadLow xreadRange ri ro rw xasked nS (by first | assumption | omega) (by first | assumption | omega)) (va_cwU 1 hts (my_gU k288 k290 k323 k289 k3 k330) rfl rfl rfl rfl (by decide +kernel) ⟨by rw [hR]; exact Nat.le_of_ble_eq_true rfl, by rw [hR]; exact Nat.le_of_ble_eq_true rfl⟩) (my_preVg hK hN (hP.sub [2] rfl) (hD.sub [2] (by decide +kernel) rfl) 0 rfl rfl) rfl rfl hl.1 rfl (lv_room (Nat.le_of_ble_eq_true rfl)) d_RC_model_36 ⟨by rw [hR]; exact (show (0 + 1) + 700 ≤ 1600 by omega), by rw [hR]; exact (show (0 + 3) + 700 ≤ 1600 by omega)⟩) hP hD hS hA [2] [0, 1, 3] rfl rfl (by decide +kernel) (by decide +kernel) (fun r_36 u9 d_36 H locs hd_36 hw_36 hP hD hS => ?_)
        obtain ⟨zo_36, zca_36, zpa_36⟩ := u9
        have hr_36 : r_36 = some zo_36 := hw_36
        have hd_36 : d_36 + 0 ≤ 700 := hd_36
        have hPD : my_PD (dC, dI) vwCl A [(rc, Sum.inr (6, [Value.ref co, Value.ref ma, Value.int (nI k), Value.int fit, Value.int fen, Value.int frd, Value.int fbd, Value.int fir])), (ma, Sum.inl (cM, 8, Sum.inr (Sum.inr (Sum.inr (Sum.inr mf))))), (q_4, Sum.inr (8, [Value.null, Value.null, Value.null])), (co, Sum.inr (2, [Value.long xlow, Value.long xrange, Value.long xcode, Value.long xreadLow, Value.long xreadRange, Value.ref ri, Value.ref ro, Value.ref rw, Value.int xasked])), (zo_36, Sum.inr (7, [Value.int (nI nS), Value.int 0, Value.int 0, Value.ref zca_36, Value.ref zpa_36])), (zca_36, Sum.inl (cI, nS, Sum.inl (fun _ => 0))), (zpa_36, Sum.inl (cI, 0, Sum.inl (fun _ => 0)))] H := ⟨hP, hD⟩
        have hP := hPD.1
        have hD := hPD.2
        subst hr_36
        refine W.eq (g2 := F0 m 39 ls [Value.ref zo_36, Value.int (nI nS), Value.ref q_4, Value.ref q_4]) rfl ?_
        refine lv_aload_n hx hb d_RC_model_39 rfl (lv_at hl 0 rfl) ?_
        refine va_get (D := (dC, dI)) (ci := 6) (v := .ref co) (C := "RangeCoders") (T := T_RC) (N := 8) hx hb hg in_RC hown hK hP 0 rfl rfl 0 (by decide) (hg _ k258) (fun _ h9 => h9) rfl d_RC_model_40 ?_
        refine lv_iload_n hx hb d_RC_model_43 rfl (lv_at hl 1 rfl) ?_
        refine my_cqg (wr := [(rc, Sum.inr (6, [Value.ref co, Value.ref ma, Value.int (nI k), Value.int fit, Value.int fen, Value.int frd, Value.int fbd, Value.int fir])), (ma, Sum.inl (cM, 8, Sum.inr (Sum.inr (Sum.inr (Sum.inr mf))))), (q_4, Sum.inr (8, [Value.null, Value.null, Value.null])), (zo_36, Sum.inr (7, [Value.int (nI nS), Value.int 0, Value.int 0, Value.ref zca_36, Value.ref zpa_36])), (zca_36, Sum.inl (cI, nS, Sum.inl (fun _ => 0))), (zpa_36, Sum.inl (cI, 0, Sum.inl (fun _ => 0)))]) (va_runU (As := [Value.int (nI nS)]) (rest := [Value.ref zo_36, Value.int (nI nS), Value.ref q_4, Value.ref q_4]) ⟨hx, hb, hml, hown, hts⟩ (f_NoCarries_newOdds l dC dI cI cM cO H.size (hSl H) co xlow xrange xcode xreadLow xreadRange ri ro rw xasked nS (by first | assumption | omega) (by first | assumption | omega)) (va_cwU 1 hts (my_gU k288 k290 k323 k289 k3 k330) rfl rfl rfl rfl (by decide +kernel) ⟨by rw [hR]; exact Nat.le_of_ble_eq_true rfl, by rw [hR]; exact Nat.le_of_ble_eq_true rfl⟩) (my_preVg hK hN (hP.sub [3] rfl) (hD.sub [3] (by decide +kernel) rfl) 0 rfl rfl) rfl rfl hl.1 rfl (lv_room (Nat.le_of_ble_eq_true rfl)) d_RC_model_44 ⟨by rw [hR]; exact (show (0 + 1 + d_36) + 700 ≤ 1600 by omega), by rw [hR]; exact (show (0 + 3 + d_36) + 700 ≤ 1600 by omega)⟩) hP hD hS hA [3] [0, 1, 2, 4, 5, 6] rfl rfl (by decide +kernel) (by decide +kernel) (fun r_44 u9 d_44 H locs hd_44 hw_44 hP hD hS => ?_)
        obtain ⟨zo_44, zca_44, zpa_44⟩ := u9
        have hr_44 : r_44 = some zo_44 := hw_44
        have hd_44 : d_44 + 0 ≤ 700 := hd_44
        have hPD : my_PD (dC, dI) vwCl A [(rc, Sum.inr (6, [Value.ref co, Value.ref ma, Value.int (nI k), Value.int fit, Value.int fen, Value.int frd, Value.int fbd, Value.int fir])), (ma, Sum.inl (cM, 8, Sum.inr (Sum.inr (Sum.inr (Sum.inr mf))))), (q_4, Sum.inr (8, [Value.null, Value.null, Value.null])), (zo_36, Sum.inr (7, [Value.int (nI nS), Value.int 0, Value.int 0, Value.ref zca_36, Value.ref zpa_36])), (zca_36, Sum.inl (cI, nS, Sum.inl (fun _ => 0))), (zpa_36, Sum.inl (cI, 0, Sum.inl (fun _ => 0))), (co, Sum.inr (2, [Value.long xlow, Value.long xrange, Value.long xcode, Value.long xreadLow, Value.long xreadRange, Value.ref ri, Value.ref ro, Value.ref rw, Value.int xasked])), (zo_44, Sum.inr (7, [Value.int (nI nS), Value.int 0, Value.int 0, Value.ref zca_44, Value.ref zpa_44])), (zca_44, Sum.inl (cI, nS, Sum.inl (fun _ => 0))), (zpa_44, Sum.inl (cI, 0, Sum.inl (fun _ => 0)))] H := ⟨hP, hD⟩
        have hP := hPD.1
        have hD := hPD.2
        subst hr_44
        refine W.eq (g2 := F0 m 47 ls [Value.ref zo_44, Value.ref zo_36, Value.int (nI nS), Value.ref q_4, Value.ref q_4]) rfl ?_
        refine my_cvg (wr := [(rc, Sum.inr (6, [Value.ref co, Value.ref ma, Value.int (nI k), Value.int fit, Value.int fen, Value.int frd, Value.int fbd, Value.int fir])), (ma, Sum.inl (cM, 8, Sum.inr (Sum.inr (Sum.inr (Sum.inr mf))))), (zo_36, Sum.inr (7, [Value.int (nI nS), Value.int 0, Value.int 0, Value.ref zca_36, Value.ref zpa_36])), (zca_36, Sum.inl (cI, nS, Sum.inl (fun _ => 0))), (zpa_36, Sum.inl (cI, 0, Sum.inl (fun _ => 0))), (co, Sum.inr (2, [Value.long xlow, Value.long xrange, Value.long xcode, Value.long xreadLow, Value.long xreadRange, Value.ref ri, Value.ref ro, Value.ref rw, Value.int xasked])), (zo_44, Sum.inr (7, [Value.int (nI nS), Value.int 0, Value.int 0, Value.ref zca_44, Value.ref zpa_44])), (zca_44, Sum.inl (cI, nS, Sum.inl (fun _ => 0))), (zpa_44, Sum.inl (cI, 0, Sum.inl (fun _ => 0)))]) (va_runI (As := [Value.int (nI nS), Value.ref zo_36, Value.ref zo_44]) (rest := [Value.ref q_4]) ⟨hx, hb, hml, hown, hts⟩ (f_Model_init l dC dI cI cM cO H.size (hSl H) q_4 nS zo_36 zo_44 (by first | assumption | omega)) (cwI 3 hts (my_gC k335) rfl rfl rfl (hg _ k13) (hg _ k333) (hg _ k334) rfl (by decide +kernel) ⟨by rw [hR]; exact Nat.le_of_ble_eq_true rfl, by rw [hR]; exact Nat.le_of_ble_eq_true rfl⟩) (my_preg (As := [Value.ref q_4, Value.int (nI nS), Value.ref zo_36, Value.ref zo_44]) hK hN (hP.sub [2] rfl) (hD.sub [2] (by decide +kernel) rfl)) rfl rfl hl.1 rfl (lv_room (Nat.le_of_ble_eq_true rfl)) d_RC_model_47 ⟨by rw [hR]; exact (show (0 + 1 + d_36 + d_44) + 100 ≤ 1600 by omega), by rw [hR]; exact (show (0 + 3 + d_36 + d_44) + 100 ≤ 1600 by omega)⟩) hP hD hS hA [2] [0, 1, 3, 4, 5, 6, 7, 8, 9] rfl rfl (by decide +kernel) (by decide +kernel) (fun u9 d_47 H locs hd_47 hw_47 hP hD hS => ?_)
        obtain ⟨zk_47, zkf_47⟩ := u9
        have hf_47 : tbI zkf_47 nS (fun _ => 1) := hw_47
        have hd_47 : d_47 + 0 ≤ 100 := hd_47
        have hPD : my_PD (dC, dI) vwCl A [(rc, Sum.inr (6, [Value.ref co, Value.ref ma, Value.int (nI k), Value.int fit, Value.int fen, Value.int frd, Value.int fbd, Value.int fir])), (ma, Sum.inl (cM, 8, Sum.inr (Sum.inr (Sum.inr (Sum.inr mf))))), (zo_36, Sum.inr (7, [Value.int (nI nS), Value.int 0, Value.int 0, Value.ref zca_36, Value.ref zpa_36])), (zca_36, Sum.inl (cI, nS, Sum.inl (fun _ => 0))), (zpa_36, Sum.inl (cI, 0, Sum.inl (fun _ => 0))), (co, Sum.inr (2, [Value.long xlow, Value.long xrange, Value.long xcode, Value.long xreadLow, Value.long xreadRange, Value.ref ri, Value.ref ro, Value.ref rw, Value.int xasked])), (zo_44, Sum.inr (7, [Value.int (nI nS), Value.int 0, Value.int 0, Value.ref zca_44, Value.ref zpa_44])), (zca_44, Sum.inl (cI, nS, Sum.inl (fun _ => 0))), (zpa_44, Sum.inl (cI, 0, Sum.inl (fun _ => 0))), (q_4, Sum.inr (8, [Value.ref zk_47, Value.ref zo_36, Value.ref zo_44])), (zk_47, Sum.inl (cI, nS, Sum.inl zkf_47))] H := ⟨hP, hD⟩
        have hP := hPD.1
        have hD := hPD.2
        refine lv_astore_n (lv' := [(2, Value.ref q_4), (0, Value.ref rc), (1, Value.int (nI nS))]) hx hb d_RC_model_50 rfl hl (by decide) rfl (fun ls hl => ?_)
        refine lv_aload_n hx hb d_RC_model_51 rfl (lv_at hl 1 rfl) ?_
        refine va_get (D := (dC, dI)) (ci := 6) (v := .ref co) (C := "RangeCoders") (T := T_RC) (N := 8) hx hb hg in_RC hown hK hP 0 rfl rfl 0 (by decide) (hg _ k258) (fun _ h9 => h9) rfl d_RC_model_52 ?_
        refine lv_aload_n hx hb d_RC_model_55 rfl (lv_at hl 0 rfl) ?_
        refine va_get (D := (dC, dI)) (ci := 8) (v := .ref zo_36) (C := "RangeCoders$Model") (T := T_Model) (N := 3) hx hb hg in_Model hown hK hP 9 rfl rfl 1 (by decide) (hg _ k343) (fun _ h9 => h9) rfl d_RC_model_56 ?_
        refine lv_aload_n hx hb d_RC_model_59 rfl (lv_at hl 0 rfl) ?_
        refine va_get (D := (dC, dI)) (ci := 8) (v := .ref zk_47) (C := "RangeCoders$Model") (T := T_Model) (N := 3) hx hb hg in_Model hown hK hP 9 rfl rfl 0 (by decide) (hg _ k341) (fun _ h9 => h9) rfl d_RC_model_60 ?_
        refine my_cv (wr := [(rc, Sum.inr (6, [Value.ref co, Value.ref ma, Value.int (nI k), Value.int fit, Value.int fen, Value.int frd, Value.int fbd, Value.int fir])), (ma, Sum.inl (cM, 8, Sum.inr (Sum.inr (Sum.inr (Sum.inr mf))))), (zo_44, Sum.inr (7, [Value.int (nI nS), Value.int 0, Value.int 0, Value.ref zca_44, Value.ref zpa_44])), (zca_44, Sum.inl (cI, nS, Sum.inl (fun _ => 0))), (zpa_44, Sum.inl (cI, 0, Sum.inl (fun _ => 0))), (q_4, Sum.inr (8, [Value.ref zk_47, Value.ref zo_36, Value.ref zo_44]))]) (va_runU (As := [Value.ref zo_36, Value.ref zk_47]) (rest := []) ⟨hx, hb, hml, hown, hts⟩ (f_NoCarries_prepare l dC dI cI cM cO H.size co xlow xrange xcode xreadLow xreadRange ri ro rw xasked zo_36 (nI nS) 0 zca_36 zpa_36 nS (fun _ => 0) 0 (fun _ => 0) 0 zk_47 zkf_47 (fun _ => 1) (hns) (by decide) (hf_47) (hb1)) (va_cwA 2 hts (my_gU k353 k355 k379 k365 k4 k366) rfl rfl rfl (hN.1 _ j354 rfl) (by decide +kernel) ⟨by rw [hR]; exact Nat.le_of_ble_eq_true rfl, by rw [hR]; exact Nat.le_of_ble_eq_true rfl⟩) (my_preV hK hN (hP.sub [5, 2, 3, 4, 10] rfl) (hD.sub [5, 2, 3, 4, 10] (by decide +kernel) rfl) 0 rfl rfl) rfl rfl hl.1 rfl (lv_room (Nat.le_of_ble_eq_true rfl)) d_RC_model_63 ⟨by rw [hR]; exact (show (0 + 1 + d_36 + d_44 + d_47) + 0 ≤ 1600 by omega), by rw [hR]; exact (show (0 + 3 + d_36 + d_44 + d_47) + 0 ≤ 1600 by omega)⟩) hP hD hS hA [5, 2, 3, 4, 10] [0, 1, 6, 7, 8, 9] rfl rfl (by decide +kernel) (by decide +kernel) (fun u9 H locs hw_63 hP hD hS => ?_)
        obtain ⟨ocfq_63, rfl⟩ : ∃ z, z = u9 := ⟨_, rfl⟩
        have hf_63 : tbI ocfq_63 nS (les nS (fun _ => 1)) := hw_63
        have hPD : my_PD (dC, dI) vwCl A [(rc, Sum.inr (6, [Value.ref co, Value.ref ma, Value.int (nI k), Value.int fit, Value.int fen, Value.int frd, Value.int fbd, Value.int fir])), (ma, Sum.inl (cM, 8, Sum.inr (Sum.inr (Sum.inr (Sum.inr mf))))), (zo_44, Sum.inr (7, [Value.int (nI nS), Value.int 0, Value.int 0, Value.ref zca_44, Value.ref zpa_44])), (zca_44, Sum.inl (cI, nS, Sum.inl (fun _ => 0))), (zpa_44, Sum.inl (cI, 0, Sum.inl (fun _ => 0))), (q_4, Sum.inr (8, [Value.ref zk_47, Value.ref zo_36, Value.ref zo_44])), (co, Sum.inr (2, [Value.long xlow, Value.long xrange, Value.long xcode, Value.long xreadLow, Value.long xreadRange, Value.ref ri, Value.ref ro, Value.ref rw, Value.int xasked])), (zo_36, Sum.inr (7, [Value.int (nI nS), Value.int (nI (ns (les nS (fun _ => 1)) nS)), Value.int 0, Value.ref zca_36, Value.ref zpa_36])), (zca_36, Sum.inl (cI, nS, Sum.inl ocfq_63)), (zpa_36, Sum.inl (cI, 0, Sum.inl (fun _ => 0))), (zk_47, Sum.inl (cI, nS, Sum.inl zkf_47))] H := ⟨hP, hD⟩
        have hP := hPD.1
        have hD := hPD.2
        refine lv_aload_n hx hb d_RC_model_66 rfl (lv_at hl 1 rfl) ?_
        refine va_get (D := (dC, dI)) (ci := 6) (v := .ref co) (C := "RangeCoders") (T := T_RC) (N := 8) hx hb hg in_RC hown hK hP 0 rfl rfl 0 (by decide) (hg _ k258) (fun _ h9 => h9) rfl d_RC_model_67 ?_
        refine lv_aload_n hx hb d_RC_model_70 rfl (lv_at hl 0 rfl) ?_
        refine va_get (D := (dC, dI)) (ci := 8) (v := .ref zo_44) (C := "RangeCoders$Model") (T := T_Model) (N := 3) hx hb hg in_Model hown hK hP 5 rfl rfl 2 (by decide) (hg _ k345) (fun _ h9 => h9) rfl d_RC_model_71 ?_
        refine lv_aload_n hx hb d_RC_model_74 rfl (lv_at hl 0 rfl) ?_
        refine va_get (D := (dC, dI)) (ci := 8) (v := .ref zk_47) (C := "RangeCoders$Model") (T := T_Model) (N := 3) hx hb hg in_Model hown hK hP 5 rfl rfl 0 (by decide) (hg _ k341) (fun _ h9 => h9) rfl d_RC_model_75 ?_
        refine my_cv (wr := [(rc, Sum.inr (6, [Value.ref co, Value.ref ma, Value.int (nI k), Value.int fit, Value.int fen, Value.int frd, Value.int fbd, Value.int fir])), (ma, Sum.inl (cM, 8, Sum.inr (Sum.inr (Sum.inr (Sum.inr mf))))), (q_4, Sum.inr (8, [Value.ref zk_47, Value.ref zo_36, Value.ref zo_44])), (zo_36, Sum.inr (7, [Value.int (nI nS), Value.int (nI (ns (les nS (fun _ => 1)) nS)), Value.int 0, Value.ref zca_36, Value.ref zpa_36])), (zca_36, Sum.inl (cI, nS, Sum.inl ocfq_63)), (zpa_36, Sum.inl (cI, 0, Sum.inl (fun _ => 0)))]) (va_runU (As := [Value.ref zo_44, Value.ref zk_47]) (rest := []) ⟨hx, hb, hml, hown, hts⟩ (f_NoCarries_prepare l dC dI cI cM cO H.size co xlow xrange xcode xreadLow xreadRange ri ro rw xasked zo_44 (nI nS) 0 zca_44 zpa_44 nS (fun _ => 0) 0 (fun _ => 0) 0 zk_47 zkf_47 (fun _ => 1) (hns) (by decide) (hf_47) (hb1)) (va_cwA 2 hts (my_gU k353 k355 k379 k365 k4 k366) rfl rfl rfl (hN.1 _ j354 rfl) (by decide +kernel) ⟨by rw [hR]; exact Nat.le_of_ble_eq_true rfl, by rw [hR]; exact Nat.le_of_ble_eq_true rfl⟩) (my_preV hK hN (hP.sub [6, 2, 3, 4, 10] rfl) (hD.sub [6, 2, 3, 4, 10] (by decide +kernel) rfl) 0 rfl rfl) rfl rfl hl.1 rfl (lv_room (Nat.le_of_ble_eq_true rfl)) d_RC_model_78 ⟨by rw [hR]; exact (show (0 + 1 + d_36 + d_44 + d_47) + 0 ≤ 1600 by omega), by rw [hR]; exact (show (0 + 3 + d_36 + d_44 + d_47) + 0 ≤ 1600 by omega)⟩) hP hD hS hA [6, 2, 3, 4, 10] [0, 1, 5, 7, 8, 9] rfl rfl (by decide +kernel) (by decide +kernel) (fun u9 H locs hw_78 hP hD hS => ?_)
        obtain ⟨ocfq_78, rfl⟩ : ∃ z, z = u9 := ⟨_, rfl⟩
        have hf_78 : tbI ocfq_78 nS (les nS (fun _ => 1)) := hw_78
        have hPD : my_PD (dC, dI) vwCl A [(rc, Sum.inr (6, [Value.ref co, Value.ref ma, Value.int (nI k), Value.int fit, Value.int fen, Value.int frd, Value.int fbd, Value.int fir])), (ma, Sum.inl (cM, 8, Sum.inr (Sum.inr (Sum.inr (Sum.inr mf))))), (q_4, Sum.inr (8, [Value.ref zk_47, Value.ref zo_36, Value.ref zo_44])), (zo_36, Sum.inr (7, [Value.int (nI nS), Value.int (nI (ns (les nS (fun _ => 1)) nS)), Value.int 0, Value.ref zca_36, Value.ref zpa_36])), (zca_36, Sum.inl (cI, nS, Sum.inl ocfq_63)), (zpa_36, Sum.inl (cI, 0, Sum.inl (fun _ => 0))), (co, Sum.inr (2, [Value.long xlow, Value.long xrange, Value.long xcode, Value.long xreadLow, Value.long xreadRange, Value.ref ri, Value.ref ro, Value.ref rw, Value.int xasked])), (zo_44, Sum.inr (7, [Value.int (nI nS), Value.int (nI (ns (les nS (fun _ => 1)) nS)), Value.int 0, Value.ref zca_44, Value.ref zpa_44])), (zca_44, Sum.inl (cI, nS, Sum.inl ocfq_78)), (zpa_44, Sum.inl (cI, 0, Sum.inl (fun _ => 0))), (zk_47, Sum.inl (cI, nS, Sum.inl zkf_47))] H := ⟨hP, hD⟩
        have hP := hPD.1
        have hD := hPD.2
        refine lv_aload_n hx hb d_RC_model_81 rfl (lv_at hl 1 rfl) ?_
        refine va_get (D := (dC, dI)) (ci := 6) (v := .ref ma) (C := "RangeCoders") (T := T_RC) (N := 8) hx hb hg in_RC hown hK hP 0 rfl rfl 1 (by decide) (hg _ k259) (fun _ h9 => h9) rfl d_RC_model_82 ?_
        refine lv_aload_n hx hb d_RC_model_85 rfl (lv_at hl 1 rfl) ?_
        refine va_get (D := (dC, dI)) (ci := 6) (v := .int (nI k)) (C := "RangeCoders") (T := T_RC) (N := 8) hx hb hg in_RC hown hK hP 0 rfl rfl 2 (by decide) (hg _ k260) (fun _ h9 => h9) rfl d_RC_model_86 ?_
        refine lv_aload_n hx hb d_RC_model_89 rfl (lv_at hl 0 rfl) ?_
        refine va_astq hx hb hK hP hD hS 1 1 2 8 rfl rfl rfl rfl (vp_in_nI hk (by decide)) d_RC_model_90 (fun H locs hP hD hS => ?_)
        have hPD : my_PD (dC, dI) vwCl A [(rc, Sum.inr (6, [Value.ref co, Value.ref ma, Value.int (nI k), Value.int fit, Value.int fen, Value.int frd, Value.int fbd, Value.int fir])), (ma, Sum.inl (cM, 8, Sum.inr (Sum.inr (Sum.inr (Sum.inr (va_up mf (nI k).toNatClampNeg (some q_4))))))), (q_4, Sum.inr (8, [Value.ref zk_47, Value.ref zo_36, Value.ref zo_44])), (zo_36, Sum.inr (7, [Value.int (nI nS), Value.int (nI (ns (les nS (fun _ => 1)) nS)), Value.int 0, Value.ref zca_36, Value.ref zpa_36])), (zca_36, Sum.inl (cI, nS, Sum.inl ocfq_63)), (zpa_36, Sum.inl (cI, 0, Sum.inl (fun _ => 0))), (co, Sum.inr (2, [Value.long xlow, Value.long xrange, Value.long xcode, Value.long xreadLow, Value.long xreadRange, Value.ref ri, Value.ref ro, Value.ref rw, Value.int xasked])), (zo_44, Sum.inr (7, [Value.int (nI nS), Value.int (nI (ns (les nS (fun _ => 1)) nS)), Value.int 0, Value.ref zca_44, Value.ref zpa_44])), (zca_44, Sum.inl (cI, nS, Sum.inl ocfq_78)), (zpa_44, Sum.inl (cI, 0, Sum.inl (fun _ => 0))), (zk_47, Sum.inl (cI, nS, Sum.inl zkf_47))] H := ⟨hP, hD⟩
        have hP := hPD.1
        have hD := hPD.2
        rw [nI_clamp (show k < 2 ^ 31 by omega)] at hP hD
        refine lv_aload_n hx hb d_RC_model_91 rfl (lv_at hl 1 rfl) ?_
        refine lv_dup hx hb d_RC_model_92 rfl ?_
        refine va_get (D := (dC, dI)) (ci := 6) (v := .int (nI k)) (C := "RangeCoders") (T := T_RC) (N := 8) hx hb hg in_RC hown hK hP 0 rfl rfl 2 (by decide) (hg _ k260) (fun _ h9 => h9) rfl d_RC_model_93 ?_
        refine lv_iconst (v := 1) hx hb d_RC_model_96 (by decide) ?_
        refine lv_iadd hx hb d_RC_model_97 ?_
        refine lv_topi (fun v_5 ev_5 => ?_)
        have z9 : v_5 = nI (k + 1) := by subst_vars; exact nI_1 _
        subst z9
        refine va_put (D := (dC, dI)) (ci := 6) (v := .int (nI (k + 1))) (ty := .int) (C := "RangeCoders") (T := T_RC) (N := 8) hx hb hg in_RC t_RC o_RC n_RC hown hK hP hD hS 0 rfl rfl 2 (by decide) (hg _ k260) (fun _ h9 => h9) rfl (o_RC 2 (by decide)) rfl rfl (Nat.le_of_ble_eq_true rfl) d_RC_model_98 (fun H locs hP hD hS => ?_)
        have hPD : my_PD (dC, dI) vwCl A [(rc, Sum.inr (6, [Value.ref co, Value.ref ma, Value.int (nI (k + 1)), Value.int fit, Value.int fen, Value.int frd, Value.int fbd, Value.int fir])), (ma, Sum.inl (cM, 8, Sum.inr (Sum.inr (Sum.inr (Sum.inr (va_up mf k (some q_4))))))), (q_4, Sum.inr (8, [Value.ref zk_47, Value.ref zo_36, Value.ref zo_44])), (zo_36, Sum.inr (7, [Value.int (nI nS), Value.int (nI (ns (les nS (fun _ => 1)) nS)), Value.int 0, Value.ref zca_36, Value.ref zpa_36])), (zca_36, Sum.inl (cI, nS, Sum.inl ocfq_63)), (zpa_36, Sum.inl (cI, 0, Sum.inl (fun _ => 0))), (co, Sum.inr (2, [Value.long xlow, Value.long xrange, Value.long xcode, Value.long xreadLow, Value.long xreadRange, Value.ref ri, Value.ref ro, Value.ref rw, Value.int xasked])), (zo_44, Sum.inr (7, [Value.int (nI nS), Value.int (nI (ns (les nS (fun _ => 1)) nS)), Value.int 0, Value.ref zca_44, Value.ref zpa_44])), (zca_44, Sum.inl (cI, nS, Sum.inl ocfq_78)), (zpa_44, Sum.inl (cI, 0, Sum.inl (fun _ => 0))), (zk_47, Sum.inl (cI, nS, Sum.inl zkf_47))] H := ⟨hP, hD⟩
        have hP := hPD.1
        have hD := hPD.2
        refine lv_aload_n hx hb d_RC_model_101 rfl (lv_at hl 1 rfl) ?_
        refine va_get (D := (dC, dI)) (ci := 6) (v := .int (nI (k + 1))) (C := "RangeCoders") (T := T_RC) (N := 8) hx hb hg in_RC hown hK hP 0 rfl rfl 2 (by decide) (hg _ k260) (fun _ h9 => h9) rfl d_RC_model_102 ?_
        refine lv_iconst (v := 1) hx hb d_RC_model_105 (by decide) ?_
        refine lv_isub hx hb d_RC_model_106 ?_
        refine lv_topi (fun v_6 ev_6 => ?_)
        exact my_iretg (v := v_6) hx hb hr (rfl) hlocks hQ hK hS (q_4, zk_47, zkf_47, zo_36, zca_36, zpa_36, ocfq_63, zo_44, zca_44, zpa_44, ocfq_78) (show (0 + 1 + d_36 + d_44 + d_47) + 0 ≤ 1600 by omega) (show (0 + 3 + d_36 + d_44 + d_47) + 0 ≤ 1600 by omega) (⟨by subst_vars; exact nI_pred k, hf_47, hf_63, hf_78⟩) (hP.sub [0, 1, 6, 2, 10, 3, 4, 5, 7, 8, 9] rfl) (hD.sub [0, 1, 6, 2, 10, 3, 4, 5, 7, 8, 9] (by decide +kernel) rfl) d_RC_model_107
      · exact absurd (show nI k < nI 8 from nI_lt hk (by omega)) c_3
    · exact absurd (show nI nS ≤ nI 64 from nI_le hns (by omega)) c_2
set_option maxHeartbeats 2000000 in
set_option maxRecDepth 100000 in
theorem f_RC_modelB_Bits (l : Launch) (dC : Nat → ClassId) (dI : Nat → Nat → Nat) (cI cM cO : ClassId) (sz : Nat) (sl : Nat) (rc : Nat) (ma : Nat) (k : Nat) (fit : Int32) (fen : Int32) (frd : Int32) (fbd : Int32) (fir : Int32) (mf : Nat → Option Nat) (co : Nat) (xshift : Int32) (xkeptCode : Int64) (xkeptRange : Int64) (xkeptAsked : Int32) (xcache : Int32) (xpending : Int32) (xlow : Int64) (xrange : Int64) (xcode : Int64) (xreadLow : Int64) (xreadRange : Int64) (ri : Nat) (ro : Nat) (rw : Nat) (xasked : Int32) (nS : Nat) (hns2 : 2 ≤ nS) (hns : nS ≤ 64) (hk : k < 8) : MetIg l y_RC_model (Cond.code y_RC_model prog_1_method_2_code 3 (some .int) :: gw) ({ frames := 3, cells := 1600, slots := 1600, locals := 66 } : Room) (dC, dI) vwCl (kT cI cM cO) [Value.ref rc, Value.int (nI nS)] [(rc, Sum.inr (6, [Value.ref co, Value.ref ma, Value.int (nI k), Value.int fit, Value.int fen, Value.int frd, Value.int fbd, Value.int fir])), (ma, Sum.inl (cM, 8, Sum.inr (Sum.inr (Sum.inr (Sum.inr mf))))), (co, Sum.inr (3, [Value.int xshift, Value.long xkeptCode, Value.long xkeptRange, Value.int xkeptAsked, Value.int xcache, Value.int xpending, Value.long xlow, Value.long xrange, Value.long xcode, Value.long xreadLow, Value.long xreadRange, Value.ref ri, Value.ref ro, Value.ref rw, Value.int xasked]))] sz sl (fun (r : Int32) (u : Nat × Nat × (Nat → Int32) × Nat × Nat × Nat × (Nat → Int32) × Nat × Nat × Nat × (Nat → Int32)) => r = nI k ∧ tbI u.2.2.1 nS (fun _ => 1) ∧ tbI u.2.2.2.2.2.2.1 (2 ^ lev nS) (fun _ => 1024) ∧ tbI u.2.2.2.2.2.2.2.2.2.2 (2 ^ lev nS) (fun _ => 1024)) (fun (u : Nat × Nat × (Nat → Int32) × Nat × Nat × Nat × (Nat → Int32) × Nat × Nat × Nat × (Nat → Int32)) => [(rc, Sum.inr (6, [Value.ref co, Value.ref ma, Value.int (nI (k + 1)), Value.int fit, Value.int fen, Value.int frd, Value.int fbd, Value.int fir])), (ma, Sum.inl (cM, 8, Sum.inr (Sum.inr (Sum.inr (Sum.inr (va_up mf k (some u.1))))))), (co, Sum.inr (3, [Value.int xshift, Value.long xkeptCode, Value.long xkeptRange, Value.int xkeptAsked, Value.int xcache, Value.int xpending, Value.long xlow, Value.long xrange, Value.long xcode, Value.long xreadLow, Value.long xreadRange, Value.ref ri, Value.ref ro, Value.ref rw, Value.int xasked])), (u.1, Sum.inr (8, [Value.ref u.2.1, Value.ref u.2.2.2.1, Value.ref u.2.2.2.2.2.2.2.1])), (u.2.1, Sum.inl (cI, nS, Sum.inl u.2.2.1)), (u.2.2.2.1, Sum.inr (7, [Value.int (nI nS), Value.int (nI (1024 * (2 ^ lev nS))), Value.int 1, Value.ref u.2.2.2.2.1, Value.ref u.2.2.2.2.2.1])), (u.2.2.2.2.1, Sum.inl (cI, (2 ^ lev nS), Sum.inl u.2.2.2.2.2.2.1)), (u.2.2.2.2.2.1, Sum.inl (cI, 0, Sum.inl (fun _ => 0))), (u.2.2.2.2.2.2.2.1, Sum.inr (7, [Value.int (nI nS), Value.int (nI (1024 * (2 ^ lev nS))), Value.int 1, Value.ref u.2.2.2.2.2.2.2.2.1, Value.ref u.2.2.2.2.2.2.2.2.2.1])), (u.2.2.2.2.2.2.2.2.1, Sum.inl (cI, (2 ^ lev nS), Sum.inl u.2.2.2.2.2.2.2.2.2.2)), (u.2.2.2.2.2.2.2.2.2.1, Sum.inl (cI, 0, Sum.inl (fun _ => 0)))]) 1600 (fun (u : Nat × Nat × (Nat → Int32) × Nat × Nat × Nat × (Nat → Int32) × Nat × Nat × Nat × (Nat → Int32)) => 0) := by
  refine my_ofIg (cc := prog_1_method_2_code) (n := 3) (ret := (some .int)) (by decide) rfl (Nat.le_of_ble_eq_true rfl) ?_
  intro p e s m args below meth c R Q A ls H locs hx hb hr hts hown hlocks hml hnm hR hQ hA hl hP hK hN hD hS
  have hg : ∀ w ∈ gw, w.before args s = true := fun w h => hts w (List.mem_cons_of_mem _ h)
  have hown : s.vm.findClass "RangeCoders" = some m.cls := hown
  have hl : lv_has ls 3 [(0, Value.ref rc), (1, Value.int (nI nS))] := hl
  have hb1 : bd (fun _ => 1) nS 4095 := fun _ _ => (by decide : 1 ≤ 4095)
  have hlv6 := lev_63 nS
  refine lv_iload_n hx hb d_RC_model_0 rfl (lv_at hl 1 rfl) ?_
  refine lv_iconst (v := 2) hx hb d_RC_model_1 (by decide) ?_
  refine lv_icmp_lt (tgt := 11) hx hb d_RC_model_2 (by decide) (fun c_1 => ?_) (fun c_1 => ?_)
  · exact absurd c_1 (show ¬ nI nS < nI 2 from nI_nlt hns2 (by omega))
  · refine lv_iload_n hx hb d_RC_model_5 rfl (lv_at hl 1 rfl) ?_
    refine lv_bipush (v := 64) hx hb d_RC_model_6 (by decide) ?_
    refine lv_icmp_le (tgt := 14) hx hb d_RC_model_8 (by decide) (fun c_2 => ?_) (fun c_2 => ?_)
    · refine lv_aload_n hx hb d_RC_model_14 rfl (lv_at hl 0 rfl) ?_
      refine va_get (D := (dC, dI)) (ci := 6) (v := .int (nI k)) (C := "RangeCoders") (T := T_RC) (N := 8) hx hb hg in_RC hown hK hP 0 rfl rfl 2 (by decide) (hg _ k260) (fun _ h9 => h9) rfl d_RC_model_15 ?_
      refine lv_bipush (v := 8) hx hb d_RC_model_18 (by decide) ?_
      refine lv_icmp_lt (tgt := 26) hx hb d_RC_model_20 (by decide) (fun c_3 => ?_) (fun c_3 => ?_)
      · refine va_new (ci := 8) (fs := [Value.null, Value.null, Value.null]) (C := "RangeCoders$Model") (T := T_Model) (N := 3) hx hb hg in_Model t_Model o_Model hown (hg _ k25) (hg _ k287) (hg _ k13) hK hP hD hS hA rfl (fun j hj => by rcases (show j = 0 ∨ j = 1 ∨ j = 2 by omega) with rfl | rfl | rfl <;> rfl) (by rw [hR]; exact (show 0 + 1 ≤ 1600 by omega)) (by rw [hR]; exact (show 0 + 3 ≤ 1600 by omega)) d_RC_model_26 (fun q_4 H hP hD hS => ?_)
        have hPD : my_PD (dC, dI) vwCl A [(rc, Sum.inr (6, [Value.ref co, Value.ref ma, Value.int (nI k), Value.int fit, Value.int fen, Value.int frd, Value.int fbd, Value.int fir])), (ma, Sum.inl (cM, 8, Sum.inr (Sum.inr (Sum.inr (Sum.inr mf))))), (co, Sum.inr (3, [Value.int xshift, Value.long xkeptCode, Value.long xkeptRange, Value.int xkeptAsked, Value.int xcache, Value.int xpending, Value.long xlow, Value.long xrange, Value.long xcode, Value.long xreadLow, Value.long xreadRange, Value.ref ri, Value.ref ro, Value.ref rw, Value.int xasked])), (q_4, Sum.inr (8, [Value.null, Value.null, Value.null]))] H := ⟨hP, hD⟩
        have hP := hPD.1
        have hD := hPD.2
        refine lv_dup hx hb d_RC_model_29 rfl ?_
        refine lv_iload_n hx hb d_RC_model_30 rfl (lv_at hl 1 rfl) ?_
        refine lv_aload_n hx hb d_RC_model_31 rfl (lv_at hl 0 rfl) ?_
        refine va_get (D := (dC, dI)) (ci := 6) (v := .ref co) (C := "RangeCoders") (T := T_RC) (N := 8) hx hb hg in_RC hown hK hP 0 rfl rfl 0 (by decide) (hg _ k258) (fun _ h9 => h9) rfl d_RC_model_32 ?_
        refine lv_iload_n hx hb d_RC_model_35 rfl (lv_at hl 1 rfl) ?_
        refine my_cqg (wr := [(rc, Sum.inr (6, [Value.ref co, Value.ref ma, Value.int (nI k), Value.int fit, Value.int fen, Value.int frd, Value.int fbd, Value.int fir])), (ma, Sum.inl (cM, 8, Sum.inr (Sum.inr (Sum.inr (Sum.inr mf))))), (q_4, Sum.inr (8, [Value.null, Value.null, Value.null]))]) (va_runU (As := [Value.int (nI nS)]) (rest := [Value.int (nI nS), Value.ref q_4, Value.ref q_4]) ⟨hx, hb, hml, hown, hts⟩ (f_Bits_newOdds l dC dI cI cM cO H.size (hSl H) co xshift xkeptCode xkeptRange xkeptAsked xcache xpending xlow xrange xcode xreadLow xreadRange ri ro rw xasked nS (by first | assumption | omega) (by first | assumption | omega)) (va_cwO 1 hts (my_gO k288 k290 k289 k291 k292 k8 k293) rfl rfl rfl (List.mem_cons_of_mem _ k330) (by decide +kernel) ⟨by rw [hR]; exact Nat.le_of_ble_eq_true rfl, by rw [hR]; exact Nat.le_of_ble_eq_true rfl⟩) (my_preVg hK hN (hP.sub [2] rfl) (hD.sub [2] (by decide +kernel) rfl) 0 rfl rfl) rfl rfl hl.1 rfl (lv_room (Nat.le_of_ble_eq_true rfl)) d_RC_model_36 ⟨by rw [hR]; exact (show (0 + 1) + 700 ≤ 1600 by omega), by rw [hR]; exact (show (0 + 3) + 700 ≤ 1600 by omega)⟩) hP hD hS hA [2] [0, 1, 3] rfl rfl (by decide +kernel) (by decide +kernel) (fun r_36 u9 d_36 H locs hd_36 hw_36 hP hD hS => ?_)
        obtain ⟨zo_36, zca_36, zpa_36⟩ := u9
        have hr_36 : r_36 = some zo_36 := hw_36
        have hd_36 : d_36 + 0 ≤ 700 := hd_36
        have hPD : my_PD (dC, dI) vwCl A [(rc, Sum.inr (6, [Value.ref co, Value.ref ma, Value.int (nI k), Value.int fit, Value.int fen, Value.int frd, Value.int fbd, Value.int fir])), (ma, Sum.inl (cM, 8, Sum.inr (Sum.inr (Sum.inr (Sum.inr mf))))), (q_4, Sum.inr (8, [Value.null, Value.null, Value.null])), (co, Sum.inr (3, [Value.int xshift, Value.long xkeptCode, Value.long xkeptRange, Value.int xkeptAsked, Value.int xcache, Value.int xpending, Value.long xlow, Value.long xrange, Value.long xcode, Value.long xreadLow, Value.long xreadRange, Value.ref ri, Value.ref ro, Value.ref rw, Value.int xasked])), (zo_36, Sum.inr (7, [Value.int (nI nS), Value.int 0, Value.int 1, Value.ref zca_36, Value.ref zpa_36])), (zca_36, Sum.inl (cI, (2 ^ lev nS), Sum.inl (fun _ => 0))), (zpa_36, Sum.inl (cI, 0, Sum.inl (fun _ => 0)))] H := ⟨hP, hD⟩
        have hP := hPD.1
        have hD := hPD.2
        subst hr_36
        refine W.eq (g2 := F0 m 39 ls [Value.ref zo_36, Value.int (nI nS), Value.ref q_4, Value.ref q_4]) rfl ?_
        refine lv_aload_n hx hb d_RC_model_39 rfl (lv_at hl 0 rfl) ?_
        refine va_get (D := (dC, dI)) (ci := 6) (v := .ref co) (C := "RangeCoders") (T := T_RC) (N := 8) hx hb hg in_RC hown hK hP 0 rfl rfl 0 (by decide) (hg _ k258) (fun _ h9 => h9) rfl d_RC_model_40 ?_
        refine lv_iload_n hx hb d_RC_model_43 rfl (lv_at hl 1 rfl) ?_
        refine my_cqg (wr := [(rc, Sum.inr (6, [Value.ref co, Value.ref ma, Value.int (nI k), Value.int fit, Value.int fen, Value.int frd, Value.int fbd, Value.int fir])), (ma, Sum.inl (cM, 8, Sum.inr (Sum.inr (Sum.inr (Sum.inr mf))))), (q_4, Sum.inr (8, [Value.null, Value.null, Value.null])), (zo_36, Sum.inr (7, [Value.int (nI nS), Value.int 0, Value.int 1, Value.ref zca_36, Value.ref zpa_36])), (zca_36, Sum.inl (cI, (2 ^ lev nS), Sum.inl (fun _ => 0))), (zpa_36, Sum.inl (cI, 0, Sum.inl (fun _ => 0)))]) (va_runU (As := [Value.int (nI nS)]) (rest := [Value.ref zo_36, Value.int (nI nS), Value.ref q_4, Value.ref q_4]) ⟨hx, hb, hml, hown, hts⟩ (f_Bits_newOdds l dC dI cI cM cO H.size (hSl H) co xshift xkeptCode xkeptRange xkeptAsked xcache xpending xlow xrange xcode xreadLow xreadRange ri ro rw xasked nS (by first | assumption | omega) (by first | assumption | omega)) (va_cwO 1 hts (my_gO k288 k290 k289 k291 k292 k8 k293) rfl rfl rfl (List.mem_cons_of_mem _ k330) (by decide +kernel) ⟨by rw [hR]; exact Nat.le_of_ble_eq_true rfl, by rw [hR]; exact Nat.le_of_ble_eq_true rfl⟩) (my_preVg hK hN (hP.sub [3] rfl) (hD.sub [3] (by decide +kernel) rfl) 0 rfl rfl) rfl rfl hl.1 rfl (lv_room (Nat.le_of_ble_eq_true rfl)) d_RC_model_44 ⟨by rw [hR]; exact (show (0 + 1 + d_36) + 700 ≤ 1600 by omega), by rw [hR]; exact (show (0 + 3 + d_36) + 700 ≤ 1600 by omega)⟩) hP hD hS hA [3] [0, 1, 2, 4, 5, 6] rfl rfl (by decide +kernel) (by decide +kernel) (fun r_44 u9 d_44 H locs hd_44 hw_44 hP hD hS => ?_)
        obtain ⟨zo_44, zca_44, zpa_44⟩ := u9
        have hr_44 : r_44 = some zo_44 := hw_44
        have hd_44 : d_44 + 0 ≤ 700 := hd_44
        have hPD : my_PD (dC, dI) vwCl A [(rc, Sum.inr (6, [Value.ref co, Value.ref ma, Value.int (nI k), Value.int fit, Value.int fen, Value.int frd, Value.int fbd, Value.int fir])), (ma, Sum.inl (cM, 8, Sum.inr (Sum.inr (Sum.inr (Sum.inr mf))))), (q_4, Sum.inr (8, [Value.null, Value.null, Value.null])), (zo_36, Sum.inr (7, [Value.int (nI nS), Value.int 0, Value.int 1, Value.ref zca_36, Value.ref zpa_36])), (zca_36, Sum.inl (cI, (2 ^ lev nS), Sum.inl (fun _ => 0))), (zpa_36, Sum.inl (cI, 0, Sum.inl (fun _ => 0))), (co, Sum.inr (3, [Value.int xshift, Value.long xkeptCode, Value.long xkeptRange, Value.int xkeptAsked, Value.int xcache, Value.int xpending, Value.long xlow, Value.long xrange, Value.long xcode, Value.long xreadLow, Value.long xreadRange, Value.ref ri, Value.ref ro, Value.ref rw, Value.int xasked])), (zo_44, Sum.inr (7, [Value.int (nI nS), Value.int 0, Value.int 1, Value.ref zca_44, Value.ref zpa_44])), (zca_44, Sum.inl (cI, (2 ^ lev nS), Sum.inl (fun _ => 0))), (zpa_44, Sum.inl (cI, 0, Sum.inl (fun _ => 0)))] H := ⟨hP, hD⟩
        have hP := hPD.1
        have hD := hPD.2
        subst hr_44
        refine W.eq (g2 := F0 m 47 ls [Value.ref zo_44, Value.ref zo_36, Value.int (nI nS), Value.ref q_4, Value.ref q_4]) rfl ?_
        refine my_cvg (wr := [(rc, Sum.inr (6, [Value.ref co, Value.ref ma, Value.int (nI k), Value.int fit, Value.int fen, Value.int frd, Value.int fbd, Value.int fir])), (ma, Sum.inl (cM, 8, Sum.inr (Sum.inr (Sum.inr (Sum.inr mf))))), (zo_36, Sum.inr (7, [Value.int (nI nS), Value.int 0, Value.int 1, Value.ref zca_36, Value.ref zpa_36])), (zca_36, Sum.inl (cI, (2 ^ lev nS), Sum.inl (fun _ => 0))), (zpa_36, Sum.inl (cI, 0, Sum.inl (fun _ => 0))), (co, Sum.inr (3, [Value.int xshift, Value.long xkeptCode, Value.long xkeptRange, Value.int xkeptAsked, Value.int xcache, Value.int xpending, Value.long xlow, Value.long xrange, Value.long xcode, Value.long xreadLow, Value.long xreadRange, Value.ref ri, Value.ref ro, Value.ref rw, Value.int xasked])), (zo_44, Sum.inr (7, [Value.int (nI nS), Value.int 0, Value.int 1, Value.ref zca_44, Value.ref zpa_44])), (zca_44, Sum.inl (cI, (2 ^ lev nS), Sum.inl (fun _ => 0))), (zpa_44, Sum.inl (cI, 0, Sum.inl (fun _ => 0)))]) (va_runI (As := [Value.int (nI nS), Value.ref zo_36, Value.ref zo_44]) (rest := [Value.ref q_4]) ⟨hx, hb, hml, hown, hts⟩ (f_Model_init l dC dI cI cM cO H.size (hSl H) q_4 nS zo_36 zo_44 (by first | assumption | omega)) (cwI 3 hts (my_gC k335) rfl rfl rfl (hg _ k13) (hg _ k333) (hg _ k334) rfl (by decide +kernel) ⟨by rw [hR]; exact Nat.le_of_ble_eq_true rfl, by rw [hR]; exact Nat.le_of_ble_eq_true rfl⟩) (my_preg (As := [Value.ref q_4, Value.int (nI nS), Value.ref zo_36, Value.ref zo_44]) hK hN (hP.sub [2] rfl) (hD.sub [2] (by decide +kernel) rfl)) rfl rfl hl.1 rfl (lv_room (Nat.le_of_ble_eq_true rfl)) d_RC_model_47 ⟨by rw [hR]; exact (show (0 + 1 + d_36 + d_44) + 100 ≤ 1600 by omega), by rw [hR]; exact (show (0 + 3 + d_36 + d_44) + 100 ≤ 1600 by omega)⟩) hP hD hS hA [2] [0, 1, 3, 4, 5, 6, 7, 8, 9] rfl rfl (by decide +kernel) (by decide +kernel) (fun u9 d_47 H locs hd_47 hw_47 hP hD hS => ?_)
        obtain ⟨zk_47, zkf_47⟩ := u9
        have hf_47 : tbI zkf_47 nS (fun _ => 1) := hw_47
        have hd_47 : d_47 + 0 ≤ 100 := hd_47
        have hPD : my_PD (dC, dI) vwCl A [(rc, Sum.inr (6, [Value.ref co, Value.ref ma, Value.int (nI k), Value.int fit, Value.int fen, Value.int frd, Value.int fbd, Value.int fir])), (ma, Sum.inl (cM, 8, Sum.inr (Sum.inr (Sum.inr (Sum.inr mf))))), (zo_36, Sum.inr (7, [Value.int (nI nS), Value.int 0, Value.int 1, Value.ref zca_36, Value.ref zpa_36])), (zca_36, Sum.inl (cI, (2 ^ lev nS), Sum.inl (fun _ => 0))), (zpa_36, Sum.inl (cI, 0, Sum.inl (fun _ => 0))), (co, Sum.inr (3, [Value.int xshift, Value.long xkeptCode, Value.long xkeptRange, Value.int xkeptAsked, Value.int xcache, Value.int xpending, Value.long xlow, Value.long xrange, Value.long xcode, Value.long xreadLow, Value.long xreadRange, Value.ref ri, Value.ref ro, Value.ref rw, Value.int xasked])), (zo_44, Sum.inr (7, [Value.int (nI nS), Value.int 0, Value.int 1, Value.ref zca_44, Value.ref zpa_44])), (zca_44, Sum.inl (cI, (2 ^ lev nS), Sum.inl (fun _ => 0))), (zpa_44, Sum.inl (cI, 0, Sum.inl (fun _ => 0))), (q_4, Sum.inr (8, [Value.ref zk_47, Value.ref zo_36, Value.ref zo_44])), (zk_47, Sum.inl (cI, nS, Sum.inl zkf_47))] H := ⟨hP, hD⟩
        have hP := hPD.1
        have hD := hPD.2
        refine lv_astore_n (lv' := [(2, Value.ref q_4), (0, Value.ref rc), (1, Value.int (nI nS))]) hx hb d_RC_model_50 rfl hl (by decide) rfl (fun ls hl => ?_)
        refine lv_aload_n hx hb d_RC_model_51 rfl (lv_at hl 1 rfl) ?_
        refine va_get (D := (dC, dI)) (ci := 6) (v := .ref co) (C := "RangeCoders") (T := T_RC) (N := 8) hx hb hg in_RC hown hK hP 0 rfl rfl 0 (by decide) (hg _ k258) (fun _ h9 => h9) rfl d_RC_model_52 ?_
        refine lv_aload_n hx hb d_RC_model_55 rfl (lv_at hl 0 rfl) ?_
        refine va_get (D := (dC, dI)) (ci := 8) (v := .ref zo_36) (C := "RangeCoders$Model") (T := T_Model) (N := 3) hx hb hg in_Model hown hK hP 9 rfl rfl 1 (by decide) (hg _ k343) (fun _ h9 => h9) rfl d_RC_model_56 ?_
        refine lv_aload_n hx hb d_RC_model_59 rfl (lv_at hl 0 rfl) ?_
        refine va_get (D := (dC, dI)) (ci := 8) (v := .ref zk_47) (C := "RangeCoders$Model") (T := T_Model) (N := 3) hx hb hg in_Model hown hK hP 9 rfl rfl 0 (by decide) (hg _ k341) (fun _ h9 => h9) rfl d_RC_model_60 ?_
        refine my_cv (wr := [(rc, Sum.inr (6, [Value.ref co, Value.ref ma, Value.int (nI k), Value.int fit, Value.int fen, Value.int frd, Value.int fbd, Value.int fir])), (ma, Sum.inl (cM, 8, Sum.inr (Sum.inr (Sum.inr (Sum.inr mf))))), (zo_44, Sum.inr (7, [Value.int (nI nS), Value.int 0, Value.int 1, Value.ref zca_44, Value.ref zpa_44])), (zca_44, Sum.inl (cI, (2 ^ lev nS), Sum.inl (fun _ => 0))), (zpa_44, Sum.inl (cI, 0, Sum.inl (fun _ => 0))), (q_4, Sum.inr (8, [Value.ref zk_47, Value.ref zo_36, Value.ref zo_44]))]) (va_runU (As := [Value.ref zo_36, Value.ref zk_47]) (rest := []) ⟨hx, hb, hml, hown, hts⟩ (f_Bits_prepare l dC dI cI cM cO H.size co xshift xkeptCode xkeptRange xkeptAsked xcache xpending xlow xrange xcode xreadLow xreadRange ri ro rw xasked zo_36 (nI nS) 1 zca_36 zpa_36 (2 ^ lev nS) (fun _ => 0) 0 (fun _ => 0) 0 zk_47 nS zkf_47 (hlv6) (by decide)) (va_cwA 2 hts (my_gU k353 k355 k356 k357 k8 k358) rfl rfl rfl (hN.1 _ j354 rfl) (by decide +kernel) ⟨by rw [hR]; exact Nat.le_of_ble_eq_true rfl, by rw [hR]; exact Nat.le_of_ble_eq_true rfl⟩) (my_preV hK hN (hP.sub [5, 2, 3, 4, 10] rfl) (hD.sub [5, 2, 3, 4, 10] (by decide +kernel) rfl) 0 rfl rfl) rfl rfl hl.1 rfl (lv_room (Nat.le_of_ble_eq_true rfl)) d_RC_model_63 ⟨by rw [hR]; exact (show (0 + 1 + d_36 + d_44 + d_47) + 0 ≤ 1600 by omega), by rw [hR]; exact (show (0 + 3 + d_36 + d_44 + d_47) + 0 ≤ 1600 by omega)⟩) hP hD hS hA [5, 2, 3, 4, 10] [0, 1, 6, 7, 8, 9] rfl rfl (by decide +kernel) (by decide +kernel) (fun u9 H locs hw_63 hP hD hS => ?_)
        obtain ⟨ocfq_63, rfl⟩ : ∃ z, z = u9 := ⟨_, rfl⟩
        have hf_63 : tbI ocfq_63 (2 ^ lev nS) (fun _ => 1024) := hw_63
        have hPD : my_PD (dC, dI) vwCl A [(rc, Sum.inr (6, [Value.ref co, Value.ref ma, Value.int (nI k), Value.int fit, Value.int fen, Value.int frd, Value.int fbd, Value.int fir])), (ma, Sum.inl (cM, 8, Sum.inr (Sum.inr (Sum.inr (Sum.inr mf))))), (zo_44, Sum.inr (7, [Value.int (nI nS), Value.int 0, Value.int 1, Value.ref zca_44, Value.ref zpa_44])), (zca_44, Sum.inl (cI, (2 ^ lev nS), Sum.inl (fun _ => 0))), (zpa_44, Sum.inl (cI, 0, Sum.inl (fun _ => 0))), (q_4, Sum.inr (8, [Value.ref zk_47, Value.ref zo_36, Value.ref zo_44])), (co, Sum.inr (3, [Value.int xshift, Value.long xkeptCode, Value.long xkeptRange, Value.int xkeptAsked, Value.int xcache, Value.int xpending, Value.long xlow, Value.long xrange, Value.long xcode, Value.long xreadLow, Value.long xreadRange, Value.ref ri, Value.ref ro, Value.ref rw, Value.int xasked])), (zo_36, Sum.inr (7, [Value.int (nI nS), Value.int (nI (1024 * (2 ^ lev nS))), Value.int 1, Value.ref zca_36, Value.ref zpa_36])), (zca_36, Sum.inl (cI, (2 ^ lev nS), Sum.inl ocfq_63)), (zpa_36, Sum.inl (cI, 0, Sum.inl (fun _ => 0))), (zk_47, Sum.inl (cI, nS, Sum.inl zkf_47))] H := ⟨hP, hD⟩
        have hP := hPD.1
        have hD := hPD.2
        refine lv_aload_n hx hb d_RC_model_66 rfl (lv_at hl 1 rfl) ?_
        refine va_get (D := (dC, dI)) (ci := 6) (v := .ref co) (C := "RangeCoders") (T := T_RC) (N := 8) hx hb hg in_RC hown hK hP 0 rfl rfl 0 (by decide) (hg _ k258) (fun _ h9 => h9) rfl d_RC_model_67 ?_
        refine lv_aload_n hx hb d_RC_model_70 rfl (lv_at hl 0 rfl) ?_
        refine va_get (D := (dC, dI)) (ci := 8) (v := .ref zo_44) (C := "RangeCoders$Model") (T := T_Model) (N := 3) hx hb hg in_Model hown hK hP 5 rfl rfl 2 (by decide) (hg _ k345) (fun _ h9 => h9) rfl d_RC_model_71 ?_
        refine lv_aload_n hx hb d_RC_model_74 rfl (lv_at hl 0 rfl) ?_
        refine va_get (D := (dC, dI)) (ci := 8) (v := .ref zk_47) (C := "RangeCoders$Model") (T := T_Model) (N := 3) hx hb hg in_Model hown hK hP 5 rfl rfl 0 (by decide) (hg _ k341) (fun _ h9 => h9) rfl d_RC_model_75 ?_
        refine my_cv (wr := [(rc, Sum.inr (6, [Value.ref co, Value.ref ma, Value.int (nI k), Value.int fit, Value.int fen, Value.int frd, Value.int fbd, Value.int fir])), (ma, Sum.inl (cM, 8, Sum.inr (Sum.inr (Sum.inr (Sum.inr mf))))), (q_4, Sum.inr (8, [Value.ref zk_47, Value.ref zo_36, Value.ref zo_44])), (zo_36, Sum.inr (7, [Value.int (nI nS), Value.int (nI (1024 * (2 ^ lev nS))), Value.int 1, Value.ref zca_36, Value.ref zpa_36])), (zca_36, Sum.inl (cI, (2 ^ lev nS), Sum.inl ocfq_63)), (zpa_36, Sum.inl (cI, 0, Sum.inl (fun _ => 0)))]) (va_runU (As := [Value.ref zo_44, Value.ref zk_47]) (rest := []) ⟨hx, hb, hml, hown, hts⟩ (f_Bits_prepare l dC dI cI cM cO H.size co xshift xkeptCode xkeptRange xkeptAsked xcache xpending xlow xrange xcode xreadLow xreadRange ri ro rw xasked zo_44 (nI nS) 1 zca_44 zpa_44 (2 ^ lev nS) (fun _ => 0) 0 (fun _ => 0) 0 zk_47 nS zkf_47 (hlv6) (by decide)) (va_cwA 2 hts (my_gU k353 k355 k356 k357 k8 k358) rfl rfl rfl (hN.1 _ j354 rfl) (by decide +kernel) ⟨by rw [hR]; exact Nat.le_of_ble_eq_true rfl, by rw [hR]; exact Nat.le_of_ble_eq_true rfl⟩) (my_preV hK hN (hP.sub [6, 2, 3, 4, 10] rfl) (hD.sub [6, 2, 3, 4, 10] (by decide +kernel) rfl) 0 rfl rfl) rfl rfl hl.1 rfl (lv_room (Nat.le_of_ble_eq_true rfl)) d_RC_model_78 ⟨by rw [hR]; exact (show (0 + 1 + d_36 + d_44 + d_47) + 0 ≤ 1600 by omega), by rw [hR]; exact (show (0 + 3 + d_36 + d_44 + d_47) + 0 ≤ 1600 by omega)⟩) hP hD hS hA [6, 2, 3, 4, 10] [0, 1, 5, 7, 8, 9] rfl rfl (by decide +kernel) (by decide +kernel) (fun u9 H locs hw_78 hP hD hS => ?_)
        obtain ⟨ocfq_78, rfl⟩ : ∃ z, z = u9 := ⟨_, rfl⟩
        have hf_78 : tbI ocfq_78 (2 ^ lev nS) (fun _ => 1024) := hw_78
        have hPD : my_PD (dC, dI) vwCl A [(rc, Sum.inr (6, [Value.ref co, Value.ref ma, Value.int (nI k), Value.int fit, Value.int fen, Value.int frd, Value.int fbd, Value.int fir])), (ma, Sum.inl (cM, 8, Sum.inr (Sum.inr (Sum.inr (Sum.inr mf))))), (q_4, Sum.inr (8, [Value.ref zk_47, Value.ref zo_36, Value.ref zo_44])), (zo_36, Sum.inr (7, [Value.int (nI nS), Value.int (nI (1024 * (2 ^ lev nS))), Value.int 1, Value.ref zca_36, Value.ref zpa_36])), (zca_36, Sum.inl (cI, (2 ^ lev nS), Sum.inl ocfq_63)), (zpa_36, Sum.inl (cI, 0, Sum.inl (fun _ => 0))), (co, Sum.inr (3, [Value.int xshift, Value.long xkeptCode, Value.long xkeptRange, Value.int xkeptAsked, Value.int xcache, Value.int xpending, Value.long xlow, Value.long xrange, Value.long xcode, Value.long xreadLow, Value.long xreadRange, Value.ref ri, Value.ref ro, Value.ref rw, Value.int xasked])), (zo_44, Sum.inr (7, [Value.int (nI nS), Value.int (nI (1024 * (2 ^ lev nS))), Value.int 1, Value.ref zca_44, Value.ref zpa_44])), (zca_44, Sum.inl (cI, (2 ^ lev nS), Sum.inl ocfq_78)), (zpa_44, Sum.inl (cI, 0, Sum.inl (fun _ => 0))), (zk_47, Sum.inl (cI, nS, Sum.inl zkf_47))] H := ⟨hP, hD⟩
        have hP := hPD.1
        have hD := hPD.2
        refine lv_aload_n hx hb d_RC_model_81 rfl (lv_at hl 1 rfl) ?_
        refine va_get (D := (dC, dI)) (ci := 6) (v := .ref ma) (C := "RangeCoders") (T := T_RC) (N := 8) hx hb hg in_RC hown hK hP 0 rfl rfl 1 (by decide) (hg _ k259) (fun _ h9 => h9) rfl d_RC_model_82 ?_
        refine lv_aload_n hx hb d_RC_model_85 rfl (lv_at hl 1 rfl) ?_
        refine va_get (D := (dC, dI)) (ci := 6) (v := .int (nI k)) (C := "RangeCoders") (T := T_RC) (N := 8) hx hb hg in_RC hown hK hP 0 rfl rfl 2 (by decide) (hg _ k260) (fun _ h9 => h9) rfl d_RC_model_86 ?_
        refine lv_aload_n hx hb d_RC_model_89 rfl (lv_at hl 0 rfl) ?_
        refine va_astq hx hb hK hP hD hS 1 1 2 8 rfl rfl rfl rfl (vp_in_nI hk (by decide)) d_RC_model_90 (fun H locs hP hD hS => ?_)
        have hPD : my_PD (dC, dI) vwCl A [(rc, Sum.inr (6, [Value.ref co, Value.ref ma, Value.int (nI k), Value.int fit, Value.int fen, Value.int frd, Value.int fbd, Value.int fir])), (ma, Sum.inl (cM, 8, Sum.inr (Sum.inr (Sum.inr (Sum.inr (va_up mf (nI k).toNatClampNeg (some q_4))))))), (q_4, Sum.inr (8, [Value.ref zk_47, Value.ref zo_36, Value.ref zo_44])), (zo_36, Sum.inr (7, [Value.int (nI nS), Value.int (nI (1024 * (2 ^ lev nS))), Value.int 1, Value.ref zca_36, Value.ref zpa_36])), (zca_36, Sum.inl (cI, (2 ^ lev nS), Sum.inl ocfq_63)), (zpa_36, Sum.inl (cI, 0, Sum.inl (fun _ => 0))), (co, Sum.inr (3, [Value.int xshift, Value.long xkeptCode, Value.long xkeptRange, Value.int xkeptAsked, Value.int xcache, Value.int xpending, Value.long xlow, Value.long xrange, Value.long xcode, Value.long xreadLow, Value.long xreadRange, Value.ref ri, Value.ref ro, Value.ref rw, Value.int xasked])), (zo_44, Sum.inr (7, [Value.int (nI nS), Value.int (nI (1024 * (2 ^ lev nS))), Value.int 1, Value.ref zca_44, Value.ref zpa_44])), (zca_44, Sum.inl (cI, (2 ^ lev nS), Sum.inl ocfq_78)), (zpa_44, Sum.inl (cI, 0, Sum.inl (fun _ => 0))), (zk_47, Sum.inl (cI, nS, Sum.inl zkf_47))] H := ⟨hP, hD⟩
        have hP := hPD.1
        have hD := hPD.2
        rw [nI_clamp (show k < 2 ^ 31 by omega)] at hP hD
        refine lv_aload_n hx hb d_RC_model_91 rfl (lv_at hl 1 rfl) ?_
        refine lv_dup hx hb d_RC_model_92 rfl ?_
        refine va_get (D := (dC, dI)) (ci := 6) (v := .int (nI k)) (C := "RangeCoders") (T := T_RC) (N := 8) hx hb hg in_RC hown hK hP 0 rfl rfl 2 (by decide) (hg _ k260) (fun _ h9 => h9) rfl d_RC_model_93 ?_
        refine lv_iconst (v := 1) hx hb d_RC_model_96 (by decide) ?_
        refine lv_iadd hx hb d_RC_model_97 ?_
        refine lv_topi (fun v_5 ev_5 => ?_)
        have z9 : v_5 = nI (k + 1) := by subst_vars; exact nI_1 _
        subst z9
        refine va_put (D := (dC, dI)) (ci := 6) (v := .int (nI (k + 1))) (ty := .int) (C := "RangeCoders") (T := T_RC) (N := 8) hx hb hg in_RC t_RC o_RC n_RC hown hK hP hD hS 0 rfl rfl 2 (by decide) (hg _ k260) (fun _ h9 => h9) rfl (o_RC 2 (by decide)) rfl rfl (Nat.le_of_ble_eq_true rfl) d_RC_model_98 (fun H locs hP hD hS => ?_)
        have hPD : my_PD (dC, dI) vwCl A [(rc, Sum.inr (6, [Value.ref co, Value.ref ma, Value.int (nI (k + 1)), Value.int fit, Value.int fen, Value.int frd, Value.int fbd, Value.int fir])), (ma, Sum.inl (cM, 8, Sum.inr (Sum.inr (Sum.inr (Sum.inr (va_up mf k (some q_4))))))), (q_4, Sum.inr (8, [Value.ref zk_47, Value.ref zo_36, Value.ref zo_44])), (zo_36, Sum.inr (7, [Value.int (nI nS), Value.int (nI (1024 * (2 ^ lev nS))), Value.int 1, Value.ref zca_36, Value.ref zpa_36])), (zca_36, Sum.inl (cI, (2 ^ lev nS), Sum.inl ocfq_63)), (zpa_36, Sum.inl (cI, 0, Sum.inl (fun _ => 0))), (co, Sum.inr (3, [Value.int xshift, Value.long xkeptCode, Value.long xkeptRange, Value.int xkeptAsked, Value.int xcache, Value.int xpending, Value.long xlow, Value.long xrange, Value.long xcode, Value.long xreadLow, Value.long xreadRange, Value.ref ri, Value.ref ro, Value.ref rw, Value.int xasked])), (zo_44, Sum.inr (7, [Value.int (nI nS), Value.int (nI (1024 * (2 ^ lev nS))), Value.int 1, Value.ref zca_44, Value.ref zpa_44])), (zca_44, Sum.inl (cI, (2 ^ lev nS), Sum.inl ocfq_78)), (zpa_44, Sum.inl (cI, 0, Sum.inl (fun _ => 0))), (zk_47, Sum.inl (cI, nS, Sum.inl zkf_47))] H := ⟨hP, hD⟩
        have hP := hPD.1
        have hD := hPD.2
        refine lv_aload_n hx hb d_RC_model_101 rfl (lv_at hl 1 rfl) ?_
        refine va_get (D := (dC, dI)) (ci := 6) (v := .int (nI (k + 1))) (C := "RangeCoders") (T := T_RC) (N := 8) hx hb hg in_RC hown hK hP 0 rfl rfl 2 (by decide) (hg _ k260) (fun _ h9 => h9) rfl d_RC_model_102 ?_
        refine lv_iconst (v := 1) hx hb d_RC_model_105 (by decide) ?_
        refine lv_isub hx hb d_RC_model_106 ?_
        refine lv_topi (fun v_6 ev_6 => ?_)
        exact my_iretg (v := v_6) hx hb hr (rfl) hlocks hQ hK hS (q_4, zk_47, zkf_47, zo_36, zca_36, zpa_36, ocfq_63, zo_44, zca_44, zpa_44, ocfq_78) (show (0 + 1 + d_36 + d_44 + d_47) + 0 ≤ 1600 by omega) (show (0 + 3 + d_36 + d_44 + d_47) + 0 ≤ 1600 by omega) (⟨by subst_vars; exact nI_pred k, hf_47, hf_63, hf_78⟩) (hP.sub [0, 1, 6, 2, 10, 3, 4, 5, 7, 8, 9] rfl) (hD.sub [0, 1, 6, 2, 10, 3, 4, 5, 7, 8, 9] (by decide +kernel) rfl) d_RC_model_107
      · exact absurd (show nI k < nI 8 from nI_lt hk (by omega)) c_3
    · exact absurd (show nI nS ≤ nI 64 from nI_le hns (by omega)) c_2
set_option maxHeartbeats 2000000 in
set_option maxRecDepth 100000 in
theorem f_RC_modelB_Stack (l : Launch) (dC : Nat → ClassId) (dI : Nat → Nat → Nat) (cI cM cO : ClassId) (sz : Nat) (sl : Nat) (rc : Nat) (ma : Nat) (k : Nat) (fit : Int32) (fen : Int32) (frd : Int32) (fbd : Int32) (fir : Int32) (mf : Nat → Option Nat) (co : Nat) (xx : Int64) (xreadX : Int64) (soa : Nat) (sna : Nat) (swa : Nat) (xkept : Int32) (ri : Nat) (ro : Nat) (rw : Nat) (xasked : Int32) (nS : Nat) (hns2 : 2 ≤ nS) (hns : nS ≤ 64) (hk : k < 8) : MetIg l y_RC_model (Cond.code y_RC_model prog_1_method_2_code 3 (some .int) :: gw) ({ frames := 4, cells := 1600, slots := 1600, locals := 89 } : Room) (dC, dI) vwCl (kT cI cM cO) [Value.ref rc, Value.int (nI nS)] [(rc, Sum.inr (6, [Value.ref co, Value.ref ma, Value.int (nI k), Value.int fit, Value.int fen, Value.int frd, Value.int fbd, Value.int fir])), (ma, Sum.inl (cM, 8, Sum.inr (Sum.inr (Sum.inr (Sum.inr mf))))), (co, Sum.inr (4, [Value.long xx, Value.long xreadX, Value.ref soa, Value.ref sna, Value.ref swa, Value.int xkept, Value.ref ri, Value.ref ro, Value.ref rw, Value.int xasked]))] sz sl (fun (r : Int32) (u : Nat × Nat × (Nat → Int32) × Nat × Nat × Nat × (Nat → Int32) × Nat × Nat × Nat × (Nat → Int32)) => r = nI k ∧ tbI u.2.2.1 nS (fun _ => 1) ∧ tbI u.2.2.2.2.2.2.1 nS (sc nS 4096 (fun _ => 1)) ∧ tbI u.2.2.2.2.2.2.2.2.2.2 nS (sc nS 4096 (fun _ => 1))) (fun (u : Nat × Nat × (Nat → Int32) × Nat × Nat × Nat × (Nat → Int32) × Nat × Nat × Nat × (Nat → Int32)) => [(rc, Sum.inr (6, [Value.ref co, Value.ref ma, Value.int (nI (k + 1)), Value.int fit, Value.int fen, Value.int frd, Value.int fbd, Value.int fir])), (ma, Sum.inl (cM, 8, Sum.inr (Sum.inr (Sum.inr (Sum.inr (va_up mf k (some u.1))))))), (co, Sum.inr (4, [Value.long xx, Value.long xreadX, Value.ref soa, Value.ref sna, Value.ref swa, Value.int xkept, Value.ref ri, Value.ref ro, Value.ref rw, Value.int xasked])), (u.1, Sum.inr (8, [Value.ref u.2.1, Value.ref u.2.2.2.1, Value.ref u.2.2.2.2.2.2.2.1])), (u.2.1, Sum.inl (cI, nS, Sum.inl u.2.2.1)), (u.2.2.2.1, Sum.inr (7, [Value.int (nI nS), Value.int (nI (ns (sc nS 4096 (fun _ => 1)) nS)), Value.int 0, Value.ref u.2.2.2.2.1, Value.ref u.2.2.2.2.2.1])), (u.2.2.2.2.1, Sum.inl (cI, nS, Sum.inl u.2.2.2.2.2.2.1)), (u.2.2.2.2.2.1, Sum.inl (cI, 0, Sum.inl (fun _ => 0))), (u.2.2.2.2.2.2.2.1, Sum.inr (7, [Value.int (nI nS), Value.int (nI (ns (sc nS 4096 (fun _ => 1)) nS)), Value.int 0, Value.ref u.2.2.2.2.2.2.2.2.1, Value.ref u.2.2.2.2.2.2.2.2.2.1])), (u.2.2.2.2.2.2.2.2.1, Sum.inl (cI, nS, Sum.inl u.2.2.2.2.2.2.2.2.2.2)), (u.2.2.2.2.2.2.2.2.2.1, Sum.inl (cI, 0, Sum.inl (fun _ => 0)))]) 1600 (fun (u : Nat × Nat × (Nat → Int32) × Nat × Nat × Nat × (Nat → Int32) × Nat × Nat × Nat × (Nat → Int32)) => 0) := by
  refine my_ofIg (cc := prog_1_method_2_code) (n := 3) (ret := (some .int)) (by decide) rfl (Nat.le_of_ble_eq_true rfl) ?_
  intro p e s m args below meth c R Q A ls H locs hx hb hr hts hown hlocks hml hnm hR hQ hA hl hP hK hN hD hS
  have hg : ∀ w ∈ gw, w.before args s = true := fun w h => hts w (List.mem_cons_of_mem _ h)
  have hown : s.vm.findClass "RangeCoders" = some m.cls := hown
  have hl : lv_has ls 3 [(0, Value.ref rc), (1, Value.int (nI nS))] := hl
  have hb1 : bd (fun _ => 1) nS 4095 := fun _ _ => (by decide : 1 ≤ 4095)
  have hlv6 := lev_63 nS
  refine lv_iload_n hx hb d_RC_model_0 rfl (lv_at hl 1 rfl) ?_
  refine lv_iconst (v := 2) hx hb d_RC_model_1 (by decide) ?_
  refine lv_icmp_lt (tgt := 11) hx hb d_RC_model_2 (by decide) (fun c_1 => ?_) (fun c_1 => ?_)
  · exact absurd c_1 (show ¬ nI nS < nI 2 from nI_nlt hns2 (by omega))
  · refine lv_iload_n hx hb d_RC_model_5 rfl (lv_at hl 1 rfl) ?_
    refine lv_bipush (v := 64) hx hb d_RC_model_6 (by decide) ?_
    refine lv_icmp_le (tgt := 14) hx hb d_RC_model_8 (by decide) (fun c_2 => ?_) (fun c_2 => ?_)
    · refine lv_aload_n hx hb d_RC_model_14 rfl (lv_at hl 0 rfl) ?_
      refine va_get (D := (dC, dI)) (ci := 6) (v := .int (nI k)) (C := "RangeCoders") (T := T_RC) (N := 8) hx hb hg in_RC hown hK hP 0 rfl rfl 2 (by decide) (hg _ k260) (fun _ h9 => h9) rfl d_RC_model_15 ?_
      refine lv_bipush (v := 8) hx hb d_RC_model_18 (by decide) ?_
      refine lv_icmp_lt (tgt := 26) hx hb d_RC_model_20 (by decide) (fun c_3 => ?_) (fun c_3 => ?_)
      · refine va_new (ci := 8) (fs := [Value.null, Value.null, Value.null]) (C := "RangeCoders$Model") (T := T_Model) (N := 3) hx hb hg in_Model t_Model o_Model hown (hg _ k25) (hg _ k287) (hg _ k13) hK hP hD hS hA rfl (fun j hj => by rcases (show j = 0 ∨ j = 1 ∨ j = 2 by omega) with rfl | rfl | rfl <;> rfl) (by rw [hR]; exact (show 0 + 1 ≤ 1600 by omega)) (by rw [hR]; exact (show 0 + 3 ≤ 1600 by omega)) d_RC_model_26 (fun q_4 H hP hD hS => ?_)
        have hPD : my_PD (dC, dI) vwCl A [(rc, Sum.inr (6, [Value.ref co, Value.ref ma, Value.int (nI k), Value.int fit, Value.int fen, Value.int frd, Value.int fbd, Value.int fir])), (ma, Sum.inl (cM, 8, Sum.inr (Sum.inr (Sum.inr (Sum.inr mf))))), (co, Sum.inr (4, [Value.long xx, Value.long xreadX, Value.ref soa, Value.ref sna, Value.ref swa, Value.int xkept, Value.ref ri, Value.ref ro, Value.ref rw, Value.int xasked])), (q_4, Sum.inr (8, [Value.null, Value.null, Value.null]))] H := ⟨hP, hD⟩
        have hP := hPD.1
        have hD := hPD.2
        refine lv_dup hx hb d_RC_model_29 rfl ?_
        refine lv_iload_n hx hb d_RC_model_30 rfl (lv_at hl 1 rfl) ?_
        refine lv_aload_n hx hb d_RC_model_31 rfl (lv_at hl 0 rfl) ?_
        refine va_get (D := (dC, dI)) (ci := 6) (v := .ref co) (C := "RangeCoders") (T := T_RC) (N := 8) hx hb hg in_RC hown hK hP 0 rfl rfl 0 (by decide) (hg _ k258) (fun _ h9 => h9) rfl d_RC_model_32 ?_
        refine lv_iload_n hx hb d_RC_model_35 rfl (lv_at hl 1 rfl) ?_
        refine my_cqg (wr := [(rc, Sum.inr (6, [Value.ref co, Value.ref ma, Value.int (nI k), Value.int fit, Value.int fen, Value.int frd, Value.int fbd, Value.int fir])), (ma, Sum.inl (cM, 8, Sum.inr (Sum.inr (Sum.inr (Sum.inr mf))))), (q_4, Sum.inr (8, [Value.null, Value.null, Value.null]))]) (va_runU (As := [Value.int (nI nS)]) (rest := [Value.int (nI nS), Value.ref q_4, Value.ref q_4]) ⟨hx, hb, hml, hown, hts⟩ (f_Stack_newOdds l dC dI cI cM cO H.size (hSl H) co xx xreadX soa sna swa xkept ri ro rw xasked nS (by first | assumption | omega) (by first | assumption | omega)) (va_cwU 1 hts (my_gU k288 k290 k324 k289 k3 k330) rfl rfl rfl rfl (by decide +kernel) ⟨by rw [hR]; exact Nat.le_of_ble_eq_true rfl, by rw [hR]; exact Nat.le_of_ble_eq_true rfl⟩) (my_preVg hK hN (hP.sub [2] rfl) (hD.sub [2] (by decide +kernel) rfl) 0 rfl rfl) rfl rfl hl.1 rfl (lv_room (Nat.le_of_ble_eq_true rfl)) d_RC_model_36 ⟨by rw [hR]; exact (show (0 + 1) + 700 ≤ 1600 by omega), by rw [hR]; exact (show (0 + 3) + 700 ≤ 1600 by omega)⟩) hP hD hS hA [2] [0, 1, 3] rfl rfl (by decide +kernel) (by decide +kernel) (fun r_36 u9 d_36 H locs hd_36 hw_36 hP hD hS => ?_)
        obtain ⟨zo_36, zca_36, zpa_36⟩ := u9
        have hr_36 : r_36 = some zo_36 := hw_36
        have hd_36 : d_36 + 0 ≤ 700 := hd_36
        have hPD : my_PD (dC, dI) vwCl A [(rc, Sum.inr (6, [Value.ref co, Value.ref ma, Value.int (nI k), Value.int fit, Value.int fen, Value.int frd, Value.int fbd, Value.int fir])), (ma, Sum.inl (cM, 8, Sum.inr (Sum.inr (Sum.inr (Sum.inr mf))))), (q_4, Sum.inr (8, [Value.null, Value.null, Value.null])), (co, Sum.inr (4, [Value.long xx, Value.long xreadX, Value.ref soa, Value.ref sna, Value.ref swa, Value.int xkept, Value.ref ri, Value.ref ro, Value.ref rw, Value.int xasked])), (zo_36, Sum.inr (7, [Value.int (nI nS), Value.int 0, Value.int 0, Value.ref zca_36, Value.ref zpa_36])), (zca_36, Sum.inl (cI, nS, Sum.inl (fun _ => 0))), (zpa_36, Sum.inl (cI, 0, Sum.inl (fun _ => 0)))] H := ⟨hP, hD⟩
        have hP := hPD.1
        have hD := hPD.2
        subst hr_36
        refine W.eq (g2 := F0 m 39 ls [Value.ref zo_36, Value.int (nI nS), Value.ref q_4, Value.ref q_4]) rfl ?_
        refine lv_aload_n hx hb d_RC_model_39 rfl (lv_at hl 0 rfl) ?_
        refine va_get (D := (dC, dI)) (ci := 6) (v := .ref co) (C := "RangeCoders") (T := T_RC) (N := 8) hx hb hg in_RC hown hK hP 0 rfl rfl 0 (by decide) (hg _ k258) (fun _ h9 => h9) rfl d_RC_model_40 ?_
        refine lv_iload_n hx hb d_RC_model_43 rfl (lv_at hl 1 rfl) ?_
        refine my_cqg (wr := [(rc, Sum.inr (6, [Value.ref co, Value.ref ma, Value.int (nI k), Value.int fit, Value.int fen, Value.int frd, Value.int fbd, Value.int fir])), (ma, Sum.inl (cM, 8, Sum.inr (Sum.inr (Sum.inr (Sum.inr mf))))), (q_4, Sum.inr (8, [Value.null, Value.null, Value.null])), (zo_36, Sum.inr (7, [Value.int (nI nS), Value.int 0, Value.int 0, Value.ref zca_36, Value.ref zpa_36])), (zca_36, Sum.inl (cI, nS, Sum.inl (fun _ => 0))), (zpa_36, Sum.inl (cI, 0, Sum.inl (fun _ => 0)))]) (va_runU (As := [Value.int (nI nS)]) (rest := [Value.ref zo_36, Value.int (nI nS), Value.ref q_4, Value.ref q_4]) ⟨hx, hb, hml, hown, hts⟩ (f_Stack_newOdds l dC dI cI cM cO H.size (hSl H) co xx xreadX soa sna swa xkept ri ro rw xasked nS (by first | assumption | omega) (by first | assumption | omega)) (va_cwU 1 hts (my_gU k288 k290 k324 k289 k3 k330) rfl rfl rfl rfl (by decide +kernel) ⟨by rw [hR]; exact Nat.le_of_ble_eq_true rfl, by rw [hR]; exact Nat.le_of_ble_eq_true rfl⟩) (my_preVg hK hN (hP.sub [3] rfl) (hD.sub [3] (by decide +kernel) rfl) 0 rfl rfl) rfl rfl hl.1 rfl (lv_room (Nat.le_of_ble_eq_true rfl)) d_RC_model_44 ⟨by rw [hR]; exact (show (0 + 1 + d_36) + 700 ≤ 1600 by omega), by rw [hR]; exact (show (0 + 3 + d_36) + 700 ≤ 1600 by omega)⟩) hP hD hS hA [3] [0, 1, 2, 4, 5, 6] rfl rfl (by decide +kernel) (by decide +kernel) (fun r_44 u9 d_44 H locs hd_44 hw_44 hP hD hS => ?_)
        obtain ⟨zo_44, zca_44, zpa_44⟩ := u9
        have hr_44 : r_44 = some zo_44 := hw_44
        have hd_44 : d_44 + 0 ≤ 700 := hd_44
        have hPD : my_PD (dC, dI) vwCl A [(rc, Sum.inr (6, [Value.ref co, Value.ref ma, Value.int (nI k), Value.int fit, Value.int fen, Value.int frd, Value.int fbd, Value.int fir])), (ma, Sum.inl (cM, 8, Sum.inr (Sum.inr (Sum.inr (Sum.inr mf))))), (q_4, Sum.inr (8, [Value.null, Value.null, Value.null])), (zo_36, Sum.inr (7, [Value.int (nI nS), Value.int 0, Value.int 0, Value.ref zca_36, Value.ref zpa_36])), (zca_36, Sum.inl (cI, nS, Sum.inl (fun _ => 0))), (zpa_36, Sum.inl (cI, 0, Sum.inl (fun _ => 0))), (co, Sum.inr (4, [Value.long xx, Value.long xreadX, Value.ref soa, Value.ref sna, Value.ref swa, Value.int xkept, Value.ref ri, Value.ref ro, Value.ref rw, Value.int xasked])), (zo_44, Sum.inr (7, [Value.int (nI nS), Value.int 0, Value.int 0, Value.ref zca_44, Value.ref zpa_44])), (zca_44, Sum.inl (cI, nS, Sum.inl (fun _ => 0))), (zpa_44, Sum.inl (cI, 0, Sum.inl (fun _ => 0)))] H := ⟨hP, hD⟩
        have hP := hPD.1
        have hD := hPD.2
        subst hr_44
        refine W.eq (g2 := F0 m 47 ls [Value.ref zo_44, Value.ref zo_36, Value.int (nI nS), Value.ref q_4, Value.ref q_4]) rfl ?_
        refine my_cvg (wr := [(rc, Sum.inr (6, [Value.ref co, Value.ref ma, Value.int (nI k), Value.int fit, Value.int fen, Value.int frd, Value.int fbd, Value.int fir])), (ma, Sum.inl (cM, 8, Sum.inr (Sum.inr (Sum.inr (Sum.inr mf))))), (zo_36, Sum.inr (7, [Value.int (nI nS), Value.int 0, Value.int 0, Value.ref zca_36, Value.ref zpa_36])), (zca_36, Sum.inl (cI, nS, Sum.inl (fun _ => 0))), (zpa_36, Sum.inl (cI, 0, Sum.inl (fun _ => 0))), (co, Sum.inr (4, [Value.long xx, Value.long xreadX, Value.ref soa, Value.ref sna, Value.ref swa, Value.int xkept, Value.ref ri, Value.ref ro, Value.ref rw, Value.int xasked])), (zo_44, Sum.inr (7, [Value.int (nI nS), Value.int 0, Value.int 0, Value.ref zca_44, Value.ref zpa_44])), (zca_44, Sum.inl (cI, nS, Sum.inl (fun _ => 0))), (zpa_44, Sum.inl (cI, 0, Sum.inl (fun _ => 0)))]) (va_runI (As := [Value.int (nI nS), Value.ref zo_36, Value.ref zo_44]) (rest := [Value.ref q_4]) ⟨hx, hb, hml, hown, hts⟩ (f_Model_init l dC dI cI cM cO H.size (hSl H) q_4 nS zo_36 zo_44 (by first | assumption | omega)) (cwI 3 hts (my_gC k335) rfl rfl rfl (hg _ k13) (hg _ k333) (hg _ k334) rfl (by decide +kernel) ⟨by rw [hR]; exact Nat.le_of_ble_eq_true rfl, by rw [hR]; exact Nat.le_of_ble_eq_true rfl⟩) (my_preg (As := [Value.ref q_4, Value.int (nI nS), Value.ref zo_36, Value.ref zo_44]) hK hN (hP.sub [2] rfl) (hD.sub [2] (by decide +kernel) rfl)) rfl rfl hl.1 rfl (lv_room (Nat.le_of_ble_eq_true rfl)) d_RC_model_47 ⟨by rw [hR]; exact (show (0 + 1 + d_36 + d_44) + 100 ≤ 1600 by omega), by rw [hR]; exact (show (0 + 3 + d_36 + d_44) + 100 ≤ 1600 by omega)⟩) hP hD hS hA [2] [0, 1, 3, 4, 5, 6, 7, 8, 9] rfl rfl (by decide +kernel) (by decide +kernel) (fun u9 d_47 H locs hd_47 hw_47 hP hD hS => ?_)
        obtain ⟨zk_47, zkf_47⟩ := u9
        have hf_47 : tbI zkf_47 nS (fun _ => 1) := hw_47
        have hd_47 : d_47 + 0 ≤ 100 := hd_47
        have hPD : my_PD (dC, dI) vwCl A [(rc, Sum.inr (6, [Value.ref co, Value.ref ma, Value.int (nI k), Value.int fit, Value.int fen, Value.int frd, Value.int fbd, Value.int fir])), (ma, Sum.inl (cM, 8, Sum.inr (Sum.inr (Sum.inr (Sum.inr mf))))), (zo_36, Sum.inr (7, [Value.int (nI nS), Value.int 0, Value.int 0, Value.ref zca_36, Value.ref zpa_36])), (zca_36, Sum.inl (cI, nS, Sum.inl (fun _ => 0))), (zpa_36, Sum.inl (cI, 0, Sum.inl (fun _ => 0))), (co, Sum.inr (4, [Value.long xx, Value.long xreadX, Value.ref soa, Value.ref sna, Value.ref swa, Value.int xkept, Value.ref ri, Value.ref ro, Value.ref rw, Value.int xasked])), (zo_44, Sum.inr (7, [Value.int (nI nS), Value.int 0, Value.int 0, Value.ref zca_44, Value.ref zpa_44])), (zca_44, Sum.inl (cI, nS, Sum.inl (fun _ => 0))), (zpa_44, Sum.inl (cI, 0, Sum.inl (fun _ => 0))), (q_4, Sum.inr (8, [Value.ref zk_47, Value.ref zo_36, Value.ref zo_44])), (zk_47, Sum.inl (cI, nS, Sum.inl zkf_47))] H := ⟨hP, hD⟩
        have hP := hPD.1
        have hD := hPD.2
        refine lv_astore_n (lv' := [(2, Value.ref q_4), (0, Value.ref rc), (1, Value.int (nI nS))]) hx hb d_RC_model_50 rfl hl (by decide) rfl (fun ls hl => ?_)
        refine lv_aload_n hx hb d_RC_model_51 rfl (lv_at hl 1 rfl) ?_
        refine va_get (D := (dC, dI)) (ci := 6) (v := .ref co) (C := "RangeCoders") (T := T_RC) (N := 8) hx hb hg in_RC hown hK hP 0 rfl rfl 0 (by decide) (hg _ k258) (fun _ h9 => h9) rfl d_RC_model_52 ?_
        refine lv_aload_n hx hb d_RC_model_55 rfl (lv_at hl 0 rfl) ?_
        refine va_get (D := (dC, dI)) (ci := 8) (v := .ref zo_36) (C := "RangeCoders$Model") (T := T_Model) (N := 3) hx hb hg in_Model hown hK hP 9 rfl rfl 1 (by decide) (hg _ k343) (fun _ h9 => h9) rfl d_RC_model_56 ?_
        refine lv_aload_n hx hb d_RC_model_59 rfl (lv_at hl 0 rfl) ?_
        refine va_get (D := (dC, dI)) (ci := 8) (v := .ref zk_47) (C := "RangeCoders$Model") (T := T_Model) (N := 3) hx hb hg in_Model hown hK hP 9 rfl rfl 0 (by decide) (hg _ k341) (fun _ h9 => h9) rfl d_RC_model_60 ?_
        refine my_cv (wr := [(rc, Sum.inr (6, [Value.ref co, Value.ref ma, Value.int (nI k), Value.int fit, Value.int fen, Value.int frd, Value.int fbd, Value.int fir])), (ma, Sum.inl (cM, 8, Sum.inr (Sum.inr (Sum.inr (Sum.inr mf))))), (zo_44, Sum.inr (7, [Value.int (nI nS), Value.int 0, Value.int 0, Value.ref zca_44, Value.ref zpa_44])), (zca_44, Sum.inl (cI, nS, Sum.inl (fun _ => 0))), (zpa_44, Sum.inl (cI, 0, Sum.inl (fun _ => 0))), (q_4, Sum.inr (8, [Value.ref zk_47, Value.ref zo_36, Value.ref zo_44]))]) (va_runU (As := [Value.ref zo_36, Value.ref zk_47]) (rest := []) ⟨hx, hb, hml, hown, hts⟩ (f_Stack_prepare l dC dI cI cM cO H.size co xx xreadX soa sna swa xkept ri ro rw xasked zo_36 (nI nS) 0 zca_36 zpa_36 nS (fun _ => 0) 0 (fun _ => 0) 0 zk_47 zkf_47 (fun _ => 1) (hns) (by decide) (hf_47) (hb1) (by omega) (rfl)) (va_cwA 2 hts (my_gU k353 k355 k380 k381 k10 k382) rfl rfl rfl (hN.1 _ j354 rfl) (by decide +kernel) ⟨by rw [hR]; exact Nat.le_of_ble_eq_true rfl, by rw [hR]; exact Nat.le_of_ble_eq_true rfl⟩) (my_preV hK hN (hP.sub [5, 2, 3, 4, 10] rfl) (hD.sub [5, 2, 3, 4, 10] (by decide +kernel) rfl) 0 rfl rfl) rfl rfl hl.1 rfl (lv_room (Nat.le_of_ble_eq_true rfl)) d_RC_model_63 ⟨by rw [hR]; exact (show (0 + 1 + d_36 + d_44 + d_47) + 0 ≤ 1600 by omega), by rw [hR]; exact (show (0 + 3 + d_36 + d_44 + d_47) + 0 ≤ 1600 by omega)⟩) hP hD hS hA [5, 2, 3, 4, 10] [0, 1, 6, 7, 8, 9] rfl rfl (by decide +kernel) (by decide +kernel) (fun u9 H locs hw_63 hP hD hS => ?_)
        obtain ⟨ocfq_63, rfl⟩ : ∃ z, z = u9 := ⟨_, rfl⟩
        have hf_63 : tbI ocfq_63 nS (sc nS 4096 (fun _ => 1)) := hw_63
        have hPD : my_PD (dC, dI) vwCl A [(rc, Sum.inr (6, [Value.ref co, Value.ref ma, Value.int (nI k), Value.int fit, Value.int fen, Value.int frd, Value.int fbd, Value.int fir])), (ma, Sum.inl (cM, 8, Sum.inr (Sum.inr (Sum.inr (Sum.inr mf))))), (zo_44, Sum.inr (7, [Value.int (nI nS), Value.int 0, Value.int 0, Value.ref zca_44, Value.ref zpa_44])), (zca_44, Sum.inl (cI, nS, Sum.inl (fun _ => 0))), (zpa_44, Sum.inl (cI, 0, Sum.inl (fun _ => 0))), (q_4, Sum.inr (8, [Value.ref zk_47, Value.ref zo_36, Value.ref zo_44])), (co, Sum.inr (4, [Value.long xx, Value.long xreadX, Value.ref soa, Value.ref sna, Value.ref swa, Value.int xkept, Value.ref ri, Value.ref ro, Value.ref rw, Value.int xasked])), (zo_36, Sum.inr (7, [Value.int (nI nS), Value.int (nI (ns (sc nS 4096 (fun _ => 1)) nS)), Value.int 0, Value.ref zca_36, Value.ref zpa_36])), (zca_36, Sum.inl (cI, nS, Sum.inl ocfq_63)), (zpa_36, Sum.inl (cI, 0, Sum.inl (fun _ => 0))), (zk_47, Sum.inl (cI, nS, Sum.inl zkf_47))] H := ⟨hP, hD⟩
        have hP := hPD.1
        have hD := hPD.2
        refine lv_aload_n hx hb d_RC_model_66 rfl (lv_at hl 1 rfl) ?_
        refine va_get (D := (dC, dI)) (ci := 6) (v := .ref co) (C := "RangeCoders") (T := T_RC) (N := 8) hx hb hg in_RC hown hK hP 0 rfl rfl 0 (by decide) (hg _ k258) (fun _ h9 => h9) rfl d_RC_model_67 ?_
        refine lv_aload_n hx hb d_RC_model_70 rfl (lv_at hl 0 rfl) ?_
        refine va_get (D := (dC, dI)) (ci := 8) (v := .ref zo_44) (C := "RangeCoders$Model") (T := T_Model) (N := 3) hx hb hg in_Model hown hK hP 5 rfl rfl 2 (by decide) (hg _ k345) (fun _ h9 => h9) rfl d_RC_model_71 ?_
        refine lv_aload_n hx hb d_RC_model_74 rfl (lv_at hl 0 rfl) ?_
        refine va_get (D := (dC, dI)) (ci := 8) (v := .ref zk_47) (C := "RangeCoders$Model") (T := T_Model) (N := 3) hx hb hg in_Model hown hK hP 5 rfl rfl 0 (by decide) (hg _ k341) (fun _ h9 => h9) rfl d_RC_model_75 ?_
        refine my_cv (wr := [(rc, Sum.inr (6, [Value.ref co, Value.ref ma, Value.int (nI k), Value.int fit, Value.int fen, Value.int frd, Value.int fbd, Value.int fir])), (ma, Sum.inl (cM, 8, Sum.inr (Sum.inr (Sum.inr (Sum.inr mf))))), (q_4, Sum.inr (8, [Value.ref zk_47, Value.ref zo_36, Value.ref zo_44])), (zo_36, Sum.inr (7, [Value.int (nI nS), Value.int (nI (ns (sc nS 4096 (fun _ => 1)) nS)), Value.int 0, Value.ref zca_36, Value.ref zpa_36])), (zca_36, Sum.inl (cI, nS, Sum.inl ocfq_63)), (zpa_36, Sum.inl (cI, 0, Sum.inl (fun _ => 0)))]) (va_runU (As := [Value.ref zo_44, Value.ref zk_47]) (rest := []) ⟨hx, hb, hml, hown, hts⟩ (f_Stack_prepare l dC dI cI cM cO H.size co xx xreadX soa sna swa xkept ri ro rw xasked zo_44 (nI nS) 0 zca_44 zpa_44 nS (fun _ => 0) 0 (fun _ => 0) 0 zk_47 zkf_47 (fun _ => 1) (hns) (by decide) (hf_47) (hb1) (by omega) (rfl)) (va_cwA 2 hts (my_gU k353 k355 k380 k381 k10 k382) rfl rfl rfl (hN.1 _ j354 rfl) (by decide +kernel) ⟨by rw [hR]; exact Nat.le_of_ble_eq_true rfl, by rw [hR]; exact Nat.le_of_ble_eq_true rfl⟩) (my_preV hK hN (hP.sub [6, 2, 3, 4, 10] rfl) (hD.sub [6, 2, 3, 4, 10] (by decide +kernel) rfl) 0 rfl rfl) rfl rfl hl.1 rfl (lv_room (Nat.le_of_ble_eq_true rfl)) d_RC_model_78 ⟨by rw [hR]; exact (show (0 + 1 + d_36 + d_44 + d_47) + 0 ≤ 1600 by omega), by rw [hR]; exact (show (0 + 3 + d_36 + d_44 + d_47) + 0 ≤ 1600 by omega)⟩) hP hD hS hA [6, 2, 3, 4, 10] [0, 1, 5, 7, 8, 9] rfl rfl (by decide +kernel) (by decide +kernel) (fun u9 H locs hw_78 hP hD hS => ?_)
        obtain ⟨ocfq_78, rfl⟩ : ∃ z, z = u9 := ⟨_, rfl⟩
        have hf_78 : tbI ocfq_78 nS (sc nS 4096 (fun _ => 1)) := hw_78
        have hPD : my_PD (dC, dI) vwCl A [(rc, Sum.inr (6, [Value.ref co, Value.ref ma, Value.int (nI k), Value.int fit, Value.int fen, Value.int frd, Value.int fbd, Value.int fir])), (ma, Sum.inl (cM, 8, Sum.inr (Sum.inr (Sum.inr (Sum.inr mf))))), (q_4, Sum.inr (8, [Value.ref zk_47, Value.ref zo_36, Value.ref zo_44])), (zo_36, Sum.inr (7, [Value.int (nI nS), Value.int (nI (ns (sc nS 4096 (fun _ => 1)) nS)), Value.int 0, Value.ref zca_36, Value.ref zpa_36])), (zca_36, Sum.inl (cI, nS, Sum.inl ocfq_63)), (zpa_36, Sum.inl (cI, 0, Sum.inl (fun _ => 0))), (co, Sum.inr (4, [Value.long xx, Value.long xreadX, Value.ref soa, Value.ref sna, Value.ref swa, Value.int xkept, Value.ref ri, Value.ref ro, Value.ref rw, Value.int xasked])), (zo_44, Sum.inr (7, [Value.int (nI nS), Value.int (nI (ns (sc nS 4096 (fun _ => 1)) nS)), Value.int 0, Value.ref zca_44, Value.ref zpa_44])), (zca_44, Sum.inl (cI, nS, Sum.inl ocfq_78)), (zpa_44, Sum.inl (cI, 0, Sum.inl (fun _ => 0))), (zk_47, Sum.inl (cI, nS, Sum.inl zkf_47))] H := ⟨hP, hD⟩
        have hP := hPD.1
        have hD := hPD.2
        refine lv_aload_n hx hb d_RC_model_81 rfl (lv_at hl 1 rfl) ?_
        refine va_get (D := (dC, dI)) (ci := 6) (v := .ref ma) (C := "RangeCoders") (T := T_RC) (N := 8) hx hb hg in_RC hown hK hP 0 rfl rfl 1 (by decide) (hg _ k259) (fun _ h9 => h9) rfl d_RC_model_82 ?_
        refine lv_aload_n hx hb d_RC_model_85 rfl (lv_at hl 1 rfl) ?_
        refine va_get (D := (dC, dI)) (ci := 6) (v := .int (nI k)) (C := "RangeCoders") (T := T_RC) (N := 8) hx hb hg in_RC hown hK hP 0 rfl rfl 2 (by decide) (hg _ k260) (fun _ h9 => h9) rfl d_RC_model_86 ?_
        refine lv_aload_n hx hb d_RC_model_89 rfl (lv_at hl 0 rfl) ?_
        refine va_astq hx hb hK hP hD hS 1 1 2 8 rfl rfl rfl rfl (vp_in_nI hk (by decide)) d_RC_model_90 (fun H locs hP hD hS => ?_)
        have hPD : my_PD (dC, dI) vwCl A [(rc, Sum.inr (6, [Value.ref co, Value.ref ma, Value.int (nI k), Value.int fit, Value.int fen, Value.int frd, Value.int fbd, Value.int fir])), (ma, Sum.inl (cM, 8, Sum.inr (Sum.inr (Sum.inr (Sum.inr (va_up mf (nI k).toNatClampNeg (some q_4))))))), (q_4, Sum.inr (8, [Value.ref zk_47, Value.ref zo_36, Value.ref zo_44])), (zo_36, Sum.inr (7, [Value.int (nI nS), Value.int (nI (ns (sc nS 4096 (fun _ => 1)) nS)), Value.int 0, Value.ref zca_36, Value.ref zpa_36])), (zca_36, Sum.inl (cI, nS, Sum.inl ocfq_63)), (zpa_36, Sum.inl (cI, 0, Sum.inl (fun _ => 0))), (co, Sum.inr (4, [Value.long xx, Value.long xreadX, Value.ref soa, Value.ref sna, Value.ref swa, Value.int xkept, Value.ref ri, Value.ref ro, Value.ref rw, Value.int xasked])), (zo_44, Sum.inr (7, [Value.int (nI nS), Value.int (nI (ns (sc nS 4096 (fun _ => 1)) nS)), Value.int 0, Value.ref zca_44, Value.ref zpa_44])), (zca_44, Sum.inl (cI, nS, Sum.inl ocfq_78)), (zpa_44, Sum.inl (cI, 0, Sum.inl (fun _ => 0))), (zk_47, Sum.inl (cI, nS, Sum.inl zkf_47))] H := ⟨hP, hD⟩
        have hP := hPD.1
        have hD := hPD.2
        rw [nI_clamp (show k < 2 ^ 31 by omega)] at hP hD
        refine lv_aload_n hx hb d_RC_model_91 rfl (lv_at hl 1 rfl) ?_
        refine lv_dup hx hb d_RC_model_92 rfl ?_
        refine va_get (D := (dC, dI)) (ci := 6) (v := .int (nI k)) (C := "RangeCoders") (T := T_RC) (N := 8) hx hb hg in_RC hown hK hP 0 rfl rfl 2 (by decide) (hg _ k260) (fun _ h9 => h9) rfl d_RC_model_93 ?_
        refine lv_iconst (v := 1) hx hb d_RC_model_96 (by decide) ?_
        refine lv_iadd hx hb d_RC_model_97 ?_
        refine lv_topi (fun v_5 ev_5 => ?_)
        have z9 : v_5 = nI (k + 1) := by subst_vars; exact nI_1 _
        subst z9
        refine va_put (D := (dC, dI)) (ci := 6) (v := .int (nI (k + 1))) (ty := .int) (C := "RangeCoders") (T := T_RC) (N := 8) hx hb hg in_RC t_RC o_RC n_RC hown hK hP hD hS 0 rfl rfl 2 (by decide) (hg _ k260) (fun _ h9 => h9) rfl (o_RC 2 (by decide)) rfl rfl (Nat.le_of_ble_eq_true rfl) d_RC_model_98 (fun H locs hP hD hS => ?_)
        have hPD : my_PD (dC, dI) vwCl A [(rc, Sum.inr (6, [Value.ref co, Value.ref ma, Value.int (nI (k + 1)), Value.int fit, Value.int fen, Value.int frd, Value.int fbd, Value.int fir])), (ma, Sum.inl (cM, 8, Sum.inr (Sum.inr (Sum.inr (Sum.inr (va_up mf k (some q_4))))))), (q_4, Sum.inr (8, [Value.ref zk_47, Value.ref zo_36, Value.ref zo_44])), (zo_36, Sum.inr (7, [Value.int (nI nS), Value.int (nI (ns (sc nS 4096 (fun _ => 1)) nS)), Value.int 0, Value.ref zca_36, Value.ref zpa_36])), (zca_36, Sum.inl (cI, nS, Sum.inl ocfq_63)), (zpa_36, Sum.inl (cI, 0, Sum.inl (fun _ => 0))), (co, Sum.inr (4, [Value.long xx, Value.long xreadX, Value.ref soa, Value.ref sna, Value.ref swa, Value.int xkept, Value.ref ri, Value.ref ro, Value.ref rw, Value.int xasked])), (zo_44, Sum.inr (7, [Value.int (nI nS), Value.int (nI (ns (sc nS 4096 (fun _ => 1)) nS)), Value.int 0, Value.ref zca_44, Value.ref zpa_44])), (zca_44, Sum.inl (cI, nS, Sum.inl ocfq_78)), (zpa_44, Sum.inl (cI, 0, Sum.inl (fun _ => 0))), (zk_47, Sum.inl (cI, nS, Sum.inl zkf_47))] H := ⟨hP, hD⟩
        have hP := hPD.1
        have hD := hPD.2
        refine lv_aload_n hx hb d_RC_model_101 rfl (lv_at hl 1 rfl) ?_
        refine va_get (D := (dC, dI)) (ci := 6) (v := .int (nI (k + 1))) (C := "RangeCoders") (T := T_RC) (N := 8) hx hb hg in_RC hown hK hP 0 rfl rfl 2 (by decide) (hg _ k260) (fun _ h9 => h9) rfl d_RC_model_102 ?_
        refine lv_iconst (v := 1) hx hb d_RC_model_105 (by decide) ?_
        refine lv_isub hx hb d_RC_model_106 ?_
        refine lv_topi (fun v_6 ev_6 => ?_)
        exact my_iretg (v := v_6) hx hb hr (rfl) hlocks hQ hK hS (q_4, zk_47, zkf_47, zo_36, zca_36, zpa_36, ocfq_63, zo_44, zca_44, zpa_44, ocfq_78) (show (0 + 1 + d_36 + d_44 + d_47) + 0 ≤ 1600 by omega) (show (0 + 3 + d_36 + d_44 + d_47) + 0 ≤ 1600 by omega) (⟨by subst_vars; exact nI_pred k, hf_47, hf_63, hf_78⟩) (hP.sub [0, 1, 6, 2, 10, 3, 4, 5, 7, 8, 9] rfl) (hD.sub [0, 1, 6, 2, 10, 3, 4, 5, 7, 8, 9] (by decide +kernel) rfl) d_RC_model_107
      · exact absurd (show nI k < nI 8 from nI_lt hk (by omega)) c_3
    · exact absurd (show nI nS ≤ nI 64 from nI_le hns (by omega)) c_2
set_option maxHeartbeats 2000000 in
set_option maxRecDepth 100000 in
theorem f_RC_modelB_Table (l : Launch) (dC : Nat → ClassId) (dI : Nat → Nat → Nat) (cI cM cO : ClassId) (sz : Nat) (sl : Nat) (rc : Nat) (ma : Nat) (k : Nat) (fit : Int32) (fen : Int32) (frd : Int32) (fbd : Int32) (fir : Int32) (mf : Nat → Option Nat) (co : Nat) (xx : Int64) (xreadX : Int64) (soa : Nat) (sna : Nat) (swa : Nat) (xkept : Int32) (ri : Nat) (ro : Nat) (rw : Nat) (xasked : Int32) (nS : Nat) (hns2 : 2 ≤ nS) (hns : nS ≤ 64) (hk : k < 8) : MetIg l y_RC_model (Cond.code y_RC_model prog_1_method_2_code 3 (some .int) :: gw) ({ frames := 4, cells := 1600, slots := 1600, locals := 89 } : Room) (dC, dI) vwCl (kT cI cM cO) [Value.ref rc, Value.int (nI nS)] [(rc, Sum.inr (6, [Value.ref co, Value.ref ma, Value.int (nI k), Value.int fit, Value.int fen, Value.int frd, Value.int fbd, Value.int fir])), (ma, Sum.inl (cM, 8, Sum.inr (Sum.inr (Sum.inr (Sum.inr mf))))), (co, Sum.inr (5, [Value.long xx, Value.long xreadX, Value.ref soa, Value.ref sna, Value.ref swa, Value.int xkept, Value.ref ri, Value.ref ro, Value.ref rw, Value.int xasked]))] sz sl (fun (r : Int32) (u : Nat × Nat × (Nat → Int32) × Nat × Nat × Nat × (Nat → Int32) × (Nat → Int32) × Nat × Nat × Nat × (Nat → Int32) × (Nat → Int32)) => r = nI k ∧ tbI u.2.2.1 nS (fun _ => 1) ∧ tbI u.2.2.2.2.2.2.1 nS (sc nS 512 (fun _ => 1)) ∧ layt u.2.2.2.2.2.2.2.1 (sc nS 512 (fun _ => 1)) nS (ns (sc nS 512 (fun _ => 1)) nS) ∧ tbI u.2.2.2.2.2.2.2.2.2.2.2.1 nS (sc nS 512 (fun _ => 1)) ∧ layt u.2.2.2.2.2.2.2.2.2.2.2.2 (sc nS 512 (fun _ => 1)) nS (ns (sc nS 512 (fun _ => 1)) nS)) (fun (u : Nat × Nat × (Nat → Int32) × Nat × Nat × Nat × (Nat → Int32) × (Nat → Int32) × Nat × Nat × Nat × (Nat → Int32) × (Nat → Int32)) => [(rc, Sum.inr (6, [Value.ref co, Value.ref ma, Value.int (nI (k + 1)), Value.int fit, Value.int fen, Value.int frd, Value.int fbd, Value.int fir])), (ma, Sum.inl (cM, 8, Sum.inr (Sum.inr (Sum.inr (Sum.inr (va_up mf k (some u.1))))))), (co, Sum.inr (5, [Value.long xx, Value.long xreadX, Value.ref soa, Value.ref sna, Value.ref swa, Value.int xkept, Value.ref ri, Value.ref ro, Value.ref rw, Value.int xasked])), (u.1, Sum.inr (8, [Value.ref u.2.1, Value.ref u.2.2.2.1, Value.ref u.2.2.2.2.2.2.2.2.1])), (u.2.1, Sum.inl (cI, nS, Sum.inl u.2.2.1)), (u.2.2.2.1, Sum.inr (7, [Value.int (nI nS), Value.int (nI (ns (sc nS 512 (fun _ => 1)) nS)), Value.int 0, Value.ref u.2.2.2.2.1, Value.ref u.2.2.2.2.2.1])), (u.2.2.2.2.1, Sum.inl (cI, nS, Sum.inl u.2.2.2.2.2.2.1)), (u.2.2.2.2.2.1, Sum.inl (cI, 512, Sum.inl u.2.2.2.2.2.2.2.1)), (u.2.2.2.2.2.2.2.2.1, Sum.inr (7, [Value.int (nI nS), Value.int (nI (ns (sc nS 512 (fun _ => 1)) nS)), Value.int 0, Value.ref u.2.2.2.2.2.2.2.2.2.1, Value.ref u.2.2.2.2.2.2.2.2.2.2.1])), (u.2.2.2.2.2.2.2.2.2.1, Sum.inl (cI, nS, Sum.inl u.2.2.2.2.2.2.2.2.2.2.2.1)), (u.2.2.2.2.2.2.2.2.2.2.1, Sum.inl (cI, 512, Sum.inl u.2.2.2.2.2.2.2.2.2.2.2.2))]) 1600 (fun (u : Nat × Nat × (Nat → Int32) × Nat × Nat × Nat × (Nat → Int32) × (Nat → Int32) × Nat × Nat × Nat × (Nat → Int32) × (Nat → Int32)) => 0) := by
  refine my_ofIg (cc := prog_1_method_2_code) (n := 3) (ret := (some .int)) (by decide) rfl (Nat.le_of_ble_eq_true rfl) ?_
  intro p e s m args below meth c R Q A ls H locs hx hb hr hts hown hlocks hml hnm hR hQ hA hl hP hK hN hD hS
  have hg : ∀ w ∈ gw, w.before args s = true := fun w h => hts w (List.mem_cons_of_mem _ h)
  have hown : s.vm.findClass "RangeCoders" = some m.cls := hown
  have hl : lv_has ls 3 [(0, Value.ref rc), (1, Value.int (nI nS))] := hl
  have hb1 : bd (fun _ => 1) nS 4095 := fun _ _ => (by decide : 1 ≤ 4095)
  have hlv6 := lev_63 nS
  refine lv_iload_n hx hb d_RC_model_0 rfl (lv_at hl 1 rfl) ?_
  refine lv_iconst (v := 2) hx hb d_RC_model_1 (by decide) ?_
  refine lv_icmp_lt (tgt := 11) hx hb d_RC_model_2 (by decide) (fun c_1 => ?_) (fun c_1 => ?_)
  · exact absurd c_1 (show ¬ nI nS < nI 2 from nI_nlt hns2 (by omega))
  · refine lv_iload_n hx hb d_RC_model_5 rfl (lv_at hl 1 rfl) ?_
    refine lv_bipush (v := 64) hx hb d_RC_model_6 (by decide) ?_
    refine lv_icmp_le (tgt := 14) hx hb d_RC_model_8 (by decide) (fun c_2 => ?_) (fun c_2 => ?_)
    · refine lv_aload_n hx hb d_RC_model_14 rfl (lv_at hl 0 rfl) ?_
      refine va_get (D := (dC, dI)) (ci := 6) (v := .int (nI k)) (C := "RangeCoders") (T := T_RC) (N := 8) hx hb hg in_RC hown hK hP 0 rfl rfl 2 (by decide) (hg _ k260) (fun _ h9 => h9) rfl d_RC_model_15 ?_
      refine lv_bipush (v := 8) hx hb d_RC_model_18 (by decide) ?_
      refine lv_icmp_lt (tgt := 26) hx hb d_RC_model_20 (by decide) (fun c_3 => ?_) (fun c_3 => ?_)
      · refine va_new (ci := 8) (fs := [Value.null, Value.null, Value.null]) (C := "RangeCoders$Model") (T := T_Model) (N := 3) hx hb hg in_Model t_Model o_Model hown (hg _ k25) (hg _ k287) (hg _ k13) hK hP hD hS hA rfl (fun j hj => by rcases (show j = 0 ∨ j = 1 ∨ j = 2 by omega) with rfl | rfl | rfl <;> rfl) (by rw [hR]; exact (show 0 + 1 ≤ 1600 by omega)) (by rw [hR]; exact (show 0 + 3 ≤ 1600 by omega)) d_RC_model_26 (fun q_4 H hP hD hS => ?_)
        have hPD : my_PD (dC, dI) vwCl A [(rc, Sum.inr (6, [Value.ref co, Value.ref ma, Value.int (nI k), Value.int fit, Value.int fen, Value.int frd, Value.int fbd, Value.int fir])), (ma, Sum.inl (cM, 8, Sum.inr (Sum.inr (Sum.inr (Sum.inr mf))))), (co, Sum.inr (5, [Value.long xx, Value.long xreadX, Value.ref soa, Value.ref sna, Value.ref swa, Value.int xkept, Value.ref ri, Value.ref ro, Value.ref rw, Value.int xasked])), (q_4, Sum.inr (8, [Value.null, Value.null, Value.null]))] H := ⟨hP, hD⟩
        have hP := hPD.1
        have hD := hPD.2
        refine lv_dup hx hb d_RC_model_29 rfl ?_
        refine lv_iload_n hx hb d_RC_model_30 rfl (lv_at hl 1 rfl) ?_
        refine lv_aload_n hx hb d_RC_model_31 rfl (lv_at hl 0 rfl) ?_
        refine va_get (D := (dC, dI)) (ci := 6) (v := .ref co) (C := "RangeCoders") (T := T_RC) (N := 8) hx hb hg in_RC hown hK hP 0 rfl rfl 0 (by decide) (hg _ k258) (fun _ h9 => h9) rfl d_RC_model_32 ?_
        refine lv_iload_n hx hb d_RC_model_35 rfl (lv_at hl 1 rfl) ?_
        refine my_cqg (wr := [(rc, Sum.inr (6, [Value.ref co, Value.ref ma, Value.int (nI k), Value.int fit, Value.int fen, Value.int frd, Value.int fbd, Value.int fir])), (ma, Sum.inl (cM, 8, Sum.inr (Sum.inr (Sum.inr (Sum.inr mf))))), (q_4, Sum.inr (8, [Value.null, Value.null, Value.null]))]) (va_runU (As := [Value.int (nI nS)]) (rest := [Value.int (nI nS), Value.ref q_4, Value.ref q_4]) ⟨hx, hb, hml, hown, hts⟩ (f_Table_newOdds l dC dI cI cM cO H.size (hSl H) co xx xreadX soa sna swa xkept ri ro rw xasked nS (by first | assumption | omega) (by first | assumption | omega)) (va_cwO 1 hts (my_gO k288 k290 k289 k325 k326 k11 k327) rfl rfl rfl (List.mem_cons_of_mem _ k330) (by decide +kernel) ⟨by rw [hR]; exact Nat.le_of_ble_eq_true rfl, by rw [hR]; exact Nat.le_of_ble_eq_true rfl⟩) (my_preVg hK hN (hP.sub [2] rfl) (hD.sub [2] (by decide +kernel) rfl) 0 rfl rfl) rfl rfl hl.1 rfl (lv_room (Nat.le_of_ble_eq_true rfl)) d_RC_model_36 ⟨by rw [hR]; exact (show (0 + 1) + 700 ≤ 1600 by omega), by rw [hR]; exact (show (0 + 3) + 700 ≤ 1600 by omega)⟩) hP hD hS hA [2] [0, 1, 3] rfl rfl (by decide +kernel) (by decide +kernel) (fun r_36 u9 d_36 H locs hd_36 hw_36 hP hD hS => ?_)
        obtain ⟨zo_36, zca_36, zpa_36⟩ := u9
        have hr_36 : r_36 = some zo_36 := hw_36
        have hd_36 : d_36 + 0 ≤ 700 := hd_36
        have hPD : my_PD (dC, dI) vwCl A [(rc, Sum.inr (6, [Value.ref co, Value.ref ma, Value.int (nI k), Value.int fit, Value.int fen, Value.int frd, Value.int fbd, Value.int fir])), (ma, Sum.inl (cM, 8, Sum.inr (Sum.inr (Sum.inr (Sum.inr mf))))), (q_4, Sum.inr (8, [Value.null, Value.null, Value.null])), (co, Sum.inr (5, [Value.long xx, Value.long xreadX, Value.ref soa, Value.ref sna, Value.ref swa, Value.int xkept, Value.ref ri, Value.ref ro, Value.ref rw, Value.int xasked])), (zo_36, Sum.inr (7, [Value.int (nI nS), Value.int 0, Value.int 0, Value.ref zca_36, Value.ref zpa_36])), (zca_36, Sum.inl (cI, nS, Sum.inl (fun _ => 0))), (zpa_36, Sum.inl (cI, 512, Sum.inl (fun _ => 0)))] H := ⟨hP, hD⟩
        have hP := hPD.1
        have hD := hPD.2
        subst hr_36
        refine W.eq (g2 := F0 m 39 ls [Value.ref zo_36, Value.int (nI nS), Value.ref q_4, Value.ref q_4]) rfl ?_
        refine lv_aload_n hx hb d_RC_model_39 rfl (lv_at hl 0 rfl) ?_
        refine va_get (D := (dC, dI)) (ci := 6) (v := .ref co) (C := "RangeCoders") (T := T_RC) (N := 8) hx hb hg in_RC hown hK hP 0 rfl rfl 0 (by decide) (hg _ k258) (fun _ h9 => h9) rfl d_RC_model_40 ?_
        refine lv_iload_n hx hb d_RC_model_43 rfl (lv_at hl 1 rfl) ?_
        refine my_cqg (wr := [(rc, Sum.inr (6, [Value.ref co, Value.ref ma, Value.int (nI k), Value.int fit, Value.int fen, Value.int frd, Value.int fbd, Value.int fir])), (ma, Sum.inl (cM, 8, Sum.inr (Sum.inr (Sum.inr (Sum.inr mf))))), (q_4, Sum.inr (8, [Value.null, Value.null, Value.null])), (zo_36, Sum.inr (7, [Value.int (nI nS), Value.int 0, Value.int 0, Value.ref zca_36, Value.ref zpa_36])), (zca_36, Sum.inl (cI, nS, Sum.inl (fun _ => 0))), (zpa_36, Sum.inl (cI, 512, Sum.inl (fun _ => 0)))]) (va_runU (As := [Value.int (nI nS)]) (rest := [Value.ref zo_36, Value.int (nI nS), Value.ref q_4, Value.ref q_4]) ⟨hx, hb, hml, hown, hts⟩ (f_Table_newOdds l dC dI cI cM cO H.size (hSl H) co xx xreadX soa sna swa xkept ri ro rw xasked nS (by first | assumption | omega) (by first | assumption | omega)) (va_cwO 1 hts (my_gO k288 k290 k289 k325 k326 k11 k327) rfl rfl rfl (List.mem_cons_of_mem _ k330) (by decide +kernel) ⟨by rw [hR]; exact Nat.le_of_ble_eq_true rfl, by rw [hR]; exact Nat.le_of_ble_eq_true rfl⟩) (my_preVg hK hN (hP.sub [3] rfl) (hD.sub [3] (by decide +kernel) rfl) 0 rfl rfl) rfl rfl hl.1 rfl (lv_room (Nat.le_of_ble_eq_true rfl)) d_RC_model_44 ⟨by rw [hR]; exact (show (0 + 1 + d_36) + 700 ≤ 1600 by omega), by rw [hR]; exact (show (0 + 3 + d_36) + 700 ≤ 1600 by omega)⟩) hP hD hS hA [3] [0, 1, 2, 4, 5, 6] rfl rfl (by decide +kernel) (by decide +kernel) (fun r_44 u9 d_44 H locs hd_44 hw_44 hP hD hS => ?_)
        obtain ⟨zo_44, zca_44, zpa_44⟩ := u9
        have hr_44 : r_44 = some zo_44 := hw_44
        have hd_44 : d_44 + 0 ≤ 700 := hd_44
        have hPD : my_PD (dC, dI) vwCl A [(rc, Sum.inr (6, [Value.ref co, Value.ref ma, Value.int (nI k), Value.int fit, Value.int fen, Value.int frd, Value.int fbd, Value.int fir])), (ma, Sum.inl (cM, 8, Sum.inr (Sum.inr (Sum.inr (Sum.inr mf))))), (q_4, Sum.inr (8, [Value.null, Value.null, Value.null])), (zo_36, Sum.inr (7, [Value.int (nI nS), Value.int 0, Value.int 0, Value.ref zca_36, Value.ref zpa_36])), (zca_36, Sum.inl (cI, nS, Sum.inl (fun _ => 0))), (zpa_36, Sum.inl (cI, 512, Sum.inl (fun _ => 0))), (co, Sum.inr (5, [Value.long xx, Value.long xreadX, Value.ref soa, Value.ref sna, Value.ref swa, Value.int xkept, Value.ref ri, Value.ref ro, Value.ref rw, Value.int xasked])), (zo_44, Sum.inr (7, [Value.int (nI nS), Value.int 0, Value.int 0, Value.ref zca_44, Value.ref zpa_44])), (zca_44, Sum.inl (cI, nS, Sum.inl (fun _ => 0))), (zpa_44, Sum.inl (cI, 512, Sum.inl (fun _ => 0)))] H := ⟨hP, hD⟩
        have hP := hPD.1
        have hD := hPD.2
        subst hr_44
        refine W.eq (g2 := F0 m 47 ls [Value.ref zo_44, Value.ref zo_36, Value.int (nI nS), Value.ref q_4, Value.ref q_4]) rfl ?_
        refine my_cvg (wr := [(rc, Sum.inr (6, [Value.ref co, Value.ref ma, Value.int (nI k), Value.int fit, Value.int fen, Value.int frd, Value.int fbd, Value.int fir])), (ma, Sum.inl (cM, 8, Sum.inr (Sum.inr (Sum.inr (Sum.inr mf))))), (zo_36, Sum.inr (7, [Value.int (nI nS), Value.int 0, Value.int 0, Value.ref zca_36, Value.ref zpa_36])), (zca_36, Sum.inl (cI, nS, Sum.inl (fun _ => 0))), (zpa_36, Sum.inl (cI, 512, Sum.inl (fun _ => 0))), (co, Sum.inr (5, [Value.long xx, Value.long xreadX, Value.ref soa, Value.ref sna, Value.ref swa, Value.int xkept, Value.ref ri, Value.ref ro, Value.ref rw, Value.int xasked])), (zo_44, Sum.inr (7, [Value.int (nI nS), Value.int 0, Value.int 0, Value.ref zca_44, Value.ref zpa_44])), (zca_44, Sum.inl (cI, nS, Sum.inl (fun _ => 0))), (zpa_44, Sum.inl (cI, 512, Sum.inl (fun _ => 0)))]) (va_runI (As := [Value.int (nI nS), Value.ref zo_36, Value.ref zo_44]) (rest := [Value.ref q_4]) ⟨hx, hb, hml, hown, hts⟩ (f_Model_init l dC dI cI cM cO H.size (hSl H) q_4 nS zo_36 zo_44 (by first | assumption | omega)) (cwI 3 hts (my_gC k335) rfl rfl rfl (hg _ k13) (hg _ k333) (hg _ k334) rfl (by decide +kernel) ⟨by rw [hR]; exact Nat.le_of_ble_eq_true rfl, by rw [hR]; exact Nat.le_of_ble_eq_true rfl⟩) (my_preg (As := [Value.ref q_4, Value.int (nI nS), Value.ref zo_36, Value.ref zo_44]) hK hN (hP.sub [2] rfl) (hD.sub [2] (by decide +kernel) rfl)) rfl rfl hl.1 rfl (lv_room (Nat.le_of_ble_eq_true rfl)) d_RC_model_47 ⟨by rw [hR]; exact (show (0 + 1 + d_36 + d_44) + 100 ≤ 1600 by omega), by rw [hR]; exact (show (0 + 3 + d_36 + d_44) + 100 ≤ 1600 by omega)⟩) hP hD hS hA [2] [0, 1, 3, 4, 5, 6, 7, 8, 9] rfl rfl (by decide +kernel) (by decide +kernel) (fun u9 d_47 H locs hd_47 hw_47 hP hD hS => ?_)
        obtain ⟨zk_47, zkf_47⟩ := u9
        have hf_47 : tbI zkf_47 nS (fun _ => 1) := hw_47
        have hd_47 : d_47 + 0 ≤ 100 := hd_47
        have hPD : my_PD (dC, dI) vwCl A [(rc, Sum.inr (6, [Value.ref co, Value.ref ma, Value.int (nI k), Value.int fit, Value.int fen, Value.int frd, Value.int fbd, Value.int fir])), (ma, Sum.inl (cM, 8, Sum.inr (Sum.inr (Sum.inr (Sum.inr mf))))), (zo_36, Sum.inr (7, [Value.int (nI nS), Value.int 0, Value.int 0, Value.ref zca_36, Value.ref zpa_36])), (zca_36, Sum.inl (cI, nS, Sum.inl (fun _ => 0))), (zpa_36, Sum.inl (cI, 512, Sum.inl (fun _ => 0))), (co, Sum.inr (5, [Value.long xx, Value.long xreadX, Value.ref soa, Value.ref sna, Value.ref swa, Value.int xkept, Value.ref ri, Value.ref ro, Value.ref rw, Value.int xasked])), (zo_44, Sum.inr (7, [Value.int (nI nS), Value.int 0, Value.int 0, Value.ref zca_44, Value.ref zpa_44])), (zca_44, Sum.inl (cI, nS, Sum.inl (fun _ => 0))), (zpa_44, Sum.inl (cI, 512, Sum.inl (fun _ => 0))), (q_4, Sum.inr (8, [Value.ref zk_47, Value.ref zo_36, Value.ref zo_44])), (zk_47, Sum.inl (cI, nS, Sum.inl zkf_47))] H := ⟨hP, hD⟩
        have hP := hPD.1
        have hD := hPD.2
        refine lv_astore_n (lv' := [(2, Value.ref q_4), (0, Value.ref rc), (1, Value.int (nI nS))]) hx hb d_RC_model_50 rfl hl (by decide) rfl (fun ls hl => ?_)
        refine lv_aload_n hx hb d_RC_model_51 rfl (lv_at hl 1 rfl) ?_
        refine va_get (D := (dC, dI)) (ci := 6) (v := .ref co) (C := "RangeCoders") (T := T_RC) (N := 8) hx hb hg in_RC hown hK hP 0 rfl rfl 0 (by decide) (hg _ k258) (fun _ h9 => h9) rfl d_RC_model_52 ?_
        refine lv_aload_n hx hb d_RC_model_55 rfl (lv_at hl 0 rfl) ?_
        refine va_get (D := (dC, dI)) (ci := 8) (v := .ref zo_36) (C := "RangeCoders$Model") (T := T_Model) (N := 3) hx hb hg in_Model hown hK hP 9 rfl rfl 1 (by decide) (hg _ k343) (fun _ h9 => h9) rfl d_RC_model_56 ?_
        refine lv_aload_n hx hb d_RC_model_59 rfl (lv_at hl 0 rfl) ?_
        refine va_get (D := (dC, dI)) (ci := 8) (v := .ref zk_47) (C := "RangeCoders$Model") (T := T_Model) (N := 3) hx hb hg in_Model hown hK hP 9 rfl rfl 0 (by decide) (hg _ k341) (fun _ h9 => h9) rfl d_RC_model_60 ?_
        refine my_cv (wr := [(rc, Sum.inr (6, [Value.ref co, Value.ref ma, Value.int (nI k), Value.int fit, Value.int fen, Value.int frd, Value.int fbd, Value.int fir])), (ma, Sum.inl (cM, 8, Sum.inr (Sum.inr (Sum.inr (Sum.inr mf))))), (zo_44, Sum.inr (7, [Value.int (nI nS), Value.int 0, Value.int 0, Value.ref zca_44, Value.ref zpa_44])), (zca_44, Sum.inl (cI, nS, Sum.inl (fun _ => 0))), (zpa_44, Sum.inl (cI, 512, Sum.inl (fun _ => 0))), (q_4, Sum.inr (8, [Value.ref zk_47, Value.ref zo_36, Value.ref zo_44]))]) (va_runU (As := [Value.ref zo_36, Value.ref zk_47]) (rest := []) ⟨hx, hb, hml, hown, hts⟩ (f_Table_prepare l dC dI cI cM cO H.size co xx xreadX soa sna swa xkept ri ro rw xasked zo_36 (nI nS) 0 zca_36 zpa_36 nS (fun _ => 0) (fun _ => 0) 0 zk_47 zkf_47 (fun _ => 1) (hns) (hf_47) (hb1) (by omega) (rfl)) (va_cwA 2 hts (my_gU k353 k355 k400 k401 k11 k402) rfl rfl rfl (hN.1 _ j354 rfl) (by decide +kernel) ⟨by rw [hR]; exact Nat.le_of_ble_eq_true rfl, by rw [hR]; exact Nat.le_of_ble_eq_true rfl⟩) (my_preV hK hN (hP.sub [5, 2, 3, 4, 10] rfl) (hD.sub [5, 2, 3, 4, 10] (by decide +kernel) rfl) 0 rfl rfl) rfl rfl hl.1 rfl (lv_room (Nat.le_of_ble_eq_true rfl)) d_RC_model_63 ⟨by rw [hR]; exact (show (0 + 1 + d_36 + d_44 + d_47) + 0 ≤ 1600 by omega), by rw [hR]; exact (show (0 + 3 + d_36 + d_44 + d_47) + 0 ≤ 1600 by omega)⟩) hP hD hS hA [5, 2, 3, 4, 10] [0, 1, 6, 7, 8, 9] rfl rfl (by decide +kernel) (by decide +kernel) (fun u9 H locs hw_63 hP hD hS => ?_)
        obtain ⟨ocfq_63, opfq_63⟩ := u9
        obtain ⟨hf_63, hl_63⟩ : tbI ocfq_63 nS (sc nS 512 (fun _ => 1)) ∧ layt opfq_63 (sc nS 512 (fun _ => 1)) nS (ns (sc nS 512 (fun _ => 1)) nS) := hw_63
        have hPD : my_PD (dC, dI) vwCl A [(rc, Sum.inr (6, [Value.ref co, Value.ref ma, Value.int (nI k), Value.int fit, Value.int fen, Value.int frd, Value.int fbd, Value.int fir])), (ma, Sum.inl (cM, 8, Sum.inr (Sum.inr (Sum.inr (Sum.inr mf))))), (zo_44, Sum.inr (7, [Value.int (nI nS), Value.int 0, Value.int 0, Value.ref zca_44, Value.ref zpa_44])), (zca_44, Sum.inl (cI, nS, Sum.inl (fun _ => 0))), (zpa_44, Sum.inl (cI, 512, Sum.inl (fun _ => 0))), (q_4, Sum.inr (8, [Value.ref zk_47, Value.ref zo_36, Value.ref zo_44])), (co, Sum.inr (5, [Value.long xx, Value.long xreadX, Value.ref soa, Value.ref sna, Value.ref swa, Value.int xkept, Value.ref ri, Value.ref ro, Value.ref rw, Value.int xasked])), (zo_36, Sum.inr (7, [Value.int (nI nS), Value.int (nI (ns (sc nS 512 (fun _ => 1)) nS)), Value.int 0, Value.ref zca_36, Value.ref zpa_36])), (zca_36, Sum.inl (cI, nS, Sum.inl ocfq_63)), (zpa_36, Sum.inl (cI, 512, Sum.inl opfq_63)), (zk_47, Sum.inl (cI, nS, Sum.inl zkf_47))] H := ⟨hP, hD⟩
        have hP := hPD.1
        have hD := hPD.2
        refine lv_aload_n hx hb d_RC_model_66 rfl (lv_at hl 1 rfl) ?_
        refine va_get (D := (dC, dI)) (ci := 6) (v := .ref co) (C := "RangeCoders") (T := T_RC) (N := 8) hx hb hg in_RC hown hK hP 0 rfl rfl 0 (by decide) (hg _ k258) (fun _ h9 => h9) rfl d_RC_model_67 ?_
        refine lv_aload_n hx hb d_RC_model_70 rfl (lv_at hl 0 rfl) ?_
        refine va_get (D := (dC, dI)) (ci := 8) (v := .ref zo_44) (C := "RangeCoders$Model") (T := T_Model) (N := 3) hx hb hg in_Model hown hK hP 5 rfl rfl 2 (by decide) (hg _ k345) (fun _ h9 => h9) rfl d_RC_model_71 ?_
        refine lv_aload_n hx hb d_RC_model_74 rfl (lv_at hl 0 rfl) ?_
        refine va_get (D := (dC, dI)) (ci := 8) (v := .ref zk_47) (C := "RangeCoders$Model") (T := T_Model) (N := 3) hx hb hg in_Model hown hK hP 5 rfl rfl 0 (by decide) (hg _ k341) (fun _ h9 => h9) rfl d_RC_model_75 ?_
        refine my_cv (wr := [(rc, Sum.inr (6, [Value.ref co, Value.ref ma, Value.int (nI k), Value.int fit, Value.int fen, Value.int frd, Value.int fbd, Value.int fir])), (ma, Sum.inl (cM, 8, Sum.inr (Sum.inr (Sum.inr (Sum.inr mf))))), (q_4, Sum.inr (8, [Value.ref zk_47, Value.ref zo_36, Value.ref zo_44])), (zo_36, Sum.inr (7, [Value.int (nI nS), Value.int (nI (ns (sc nS 512 (fun _ => 1)) nS)), Value.int 0, Value.ref zca_36, Value.ref zpa_36])), (zca_36, Sum.inl (cI, nS, Sum.inl ocfq_63)), (zpa_36, Sum.inl (cI, 512, Sum.inl opfq_63))]) (va_runU (As := [Value.ref zo_44, Value.ref zk_47]) (rest := []) ⟨hx, hb, hml, hown, hts⟩ (f_Table_prepare l dC dI cI cM cO H.size co xx xreadX soa sna swa xkept ri ro rw xasked zo_44 (nI nS) 0 zca_44 zpa_44 nS (fun _ => 0) (fun _ => 0) 0 zk_47 zkf_47 (fun _ => 1) (hns) (hf_47) (hb1) (by omega) (rfl)) (va_cwA 2 hts (my_gU k353 k355 k400 k401 k11 k402) rfl rfl rfl (hN.1 _ j354 rfl) (by decide +kernel) ⟨by rw [hR]; exact Nat.le_of_ble_eq_true rfl, by rw [hR]; exact Nat.le_of_ble_eq_true rfl⟩) (my_preV hK hN (hP.sub [6, 2, 3, 4, 10] rfl) (hD.sub [6, 2, 3, 4, 10] (by decide +kernel) rfl) 0 rfl rfl) rfl rfl hl.1 rfl (lv_room (Nat.le_of_ble_eq_true rfl)) d_RC_model_78 ⟨by rw [hR]; exact (show (0 + 1 + d_36 + d_44 + d_47) + 0 ≤ 1600 by omega), by rw [hR]; exact (show (0 + 3 + d_36 + d_44 + d_47) + 0 ≤ 1600 by omega)⟩) hP hD hS hA [6, 2, 3, 4, 10] [0, 1, 5, 7, 8, 9] rfl rfl (by decide +kernel) (by decide +kernel) (fun u9 H locs hw_78 hP hD hS => ?_)
        obtain ⟨ocfq_78, opfq_78⟩ := u9
        obtain ⟨hf_78, hl_78⟩ : tbI ocfq_78 nS (sc nS 512 (fun _ => 1)) ∧ layt opfq_78 (sc nS 512 (fun _ => 1)) nS (ns (sc nS 512 (fun _ => 1)) nS) := hw_78
        have hPD : my_PD (dC, dI) vwCl A [(rc, Sum.inr (6, [Value.ref co, Value.ref ma, Value.int (nI k), Value.int fit, Value.int fen, Value.int frd, Value.int fbd, Value.int fir])), (ma, Sum.inl (cM, 8, Sum.inr (Sum.inr (Sum.inr (Sum.inr mf))))), (q_4, Sum.inr (8, [Value.ref zk_47, Value.ref zo_36, Value.ref zo_44])), (zo_36, Sum.inr (7, [Value.int (nI nS), Value.int (nI (ns (sc nS 512 (fun _ => 1)) nS)), Value.int 0, Value.ref zca_36, Value.ref zpa_36])), (zca_36, Sum.inl (cI, nS, Sum.inl ocfq_63)), (zpa_36, Sum.inl (cI, 512, Sum.inl opfq_63)), (co, Sum.inr (5, [Value.long xx, Value.long xreadX, Value.ref soa, Value.ref sna, Value.ref swa, Value.int xkept, Value.ref ri, Value.ref ro, Value.ref rw, Value.int xasked])), (zo_44, Sum.inr (7, [Value.int (nI nS), Value.int (nI (ns (sc nS 512 (fun _ => 1)) nS)), Value.int 0, Value.ref zca_44, Value.ref zpa_44])), (zca_44, Sum.inl (cI, nS, Sum.inl ocfq_78)), (zpa_44, Sum.inl (cI, 512, Sum.inl opfq_78)), (zk_47, Sum.inl (cI, nS, Sum.inl zkf_47))] H := ⟨hP, hD⟩
        have hP := hPD.1
        have hD := hPD.2
        refine lv_aload_n hx hb d_RC_model_81 rfl (lv_at hl 1 rfl) ?_
        refine va_get (D := (dC, dI)) (ci := 6) (v := .ref ma) (C := "RangeCoders") (T := T_RC) (N := 8) hx hb hg in_RC hown hK hP 0 rfl rfl 1 (by decide) (hg _ k259) (fun _ h9 => h9) rfl d_RC_model_82 ?_
        refine lv_aload_n hx hb d_RC_model_85 rfl (lv_at hl 1 rfl) ?_
        refine va_get (D := (dC, dI)) (ci := 6) (v := .int (nI k)) (C := "RangeCoders") (T := T_RC) (N := 8) hx hb hg in_RC hown hK hP 0 rfl rfl 2 (by decide) (hg _ k260) (fun _ h9 => h9) rfl d_RC_model_86 ?_
        refine lv_aload_n hx hb d_RC_model_89 rfl (lv_at hl 0 rfl) ?_
        refine va_astq hx hb hK hP hD hS 1 1 2 8 rfl rfl rfl rfl (vp_in_nI hk (by decide)) d_RC_model_90 (fun H locs hP hD hS => ?_)
        have hPD : my_PD (dC, dI) vwCl A [(rc, Sum.inr (6, [Value.ref co, Value.ref ma, Value.int (nI k), Value.int fit, Value.int fen, Value.int frd, Value.int fbd, Value.int fir])), (ma, Sum.inl (cM, 8, Sum.inr (Sum.inr (Sum.inr (Sum.inr (va_up mf (nI k).toNatClampNeg (some q_4))))))), (q_4, Sum.inr (8, [Value.ref zk_47, Value.ref zo_36, Value.ref zo_44])), (zo_36, Sum.inr (7, [Value.int (nI nS), Value.int (nI (ns (sc nS 512 (fun _ => 1)) nS)), Value.int 0, Value.ref zca_36, Value.ref zpa_36])), (zca_36, Sum.inl (cI, nS, Sum.inl ocfq_63)), (zpa_36, Sum.inl (cI, 512, Sum.inl opfq_63)), (co, Sum.inr (5, [Value.long xx, Value.long xreadX, Value.ref soa, Value.ref sna, Value.ref swa, Value.int xkept, Value.ref ri, Value.ref ro, Value.ref rw, Value.int xasked])), (zo_44, Sum.inr (7, [Value.int (nI nS), Value.int (nI (ns (sc nS 512 (fun _ => 1)) nS)), Value.int 0, Value.ref zca_44, Value.ref zpa_44])), (zca_44, Sum.inl (cI, nS, Sum.inl ocfq_78)), (zpa_44, Sum.inl (cI, 512, Sum.inl opfq_78)), (zk_47, Sum.inl (cI, nS, Sum.inl zkf_47))] H := ⟨hP, hD⟩
        have hP := hPD.1
        have hD := hPD.2
        rw [nI_clamp (show k < 2 ^ 31 by omega)] at hP hD
        refine lv_aload_n hx hb d_RC_model_91 rfl (lv_at hl 1 rfl) ?_
        refine lv_dup hx hb d_RC_model_92 rfl ?_
        refine va_get (D := (dC, dI)) (ci := 6) (v := .int (nI k)) (C := "RangeCoders") (T := T_RC) (N := 8) hx hb hg in_RC hown hK hP 0 rfl rfl 2 (by decide) (hg _ k260) (fun _ h9 => h9) rfl d_RC_model_93 ?_
        refine lv_iconst (v := 1) hx hb d_RC_model_96 (by decide) ?_
        refine lv_iadd hx hb d_RC_model_97 ?_
        refine lv_topi (fun v_5 ev_5 => ?_)
        have z9 : v_5 = nI (k + 1) := by subst_vars; exact nI_1 _
        subst z9
        refine va_put (D := (dC, dI)) (ci := 6) (v := .int (nI (k + 1))) (ty := .int) (C := "RangeCoders") (T := T_RC) (N := 8) hx hb hg in_RC t_RC o_RC n_RC hown hK hP hD hS 0 rfl rfl 2 (by decide) (hg _ k260) (fun _ h9 => h9) rfl (o_RC 2 (by decide)) rfl rfl (Nat.le_of_ble_eq_true rfl) d_RC_model_98 (fun H locs hP hD hS => ?_)
        have hPD : my_PD (dC, dI) vwCl A [(rc, Sum.inr (6, [Value.ref co, Value.ref ma, Value.int (nI (k + 1)), Value.int fit, Value.int fen, Value.int frd, Value.int fbd, Value.int fir])), (ma, Sum.inl (cM, 8, Sum.inr (Sum.inr (Sum.inr (Sum.inr (va_up mf k (some q_4))))))), (q_4, Sum.inr (8, [Value.ref zk_47, Value.ref zo_36, Value.ref zo_44])), (zo_36, Sum.inr (7, [Value.int (nI nS), Value.int (nI (ns (sc nS 512 (fun _ => 1)) nS)), Value.int 0, Value.ref zca_36, Value.ref zpa_36])), (zca_36, Sum.inl (cI, nS, Sum.inl ocfq_63)), (zpa_36, Sum.inl (cI, 512, Sum.inl opfq_63)), (co, Sum.inr (5, [Value.long xx, Value.long xreadX, Value.ref soa, Value.ref sna, Value.ref swa, Value.int xkept, Value.ref ri, Value.ref ro, Value.ref rw, Value.int xasked])), (zo_44, Sum.inr (7, [Value.int (nI nS), Value.int (nI (ns (sc nS 512 (fun _ => 1)) nS)), Value.int 0, Value.ref zca_44, Value.ref zpa_44])), (zca_44, Sum.inl (cI, nS, Sum.inl ocfq_78)), (zpa_44, Sum.inl (cI, 512, Sum.inl opfq_78)), (zk_47, Sum.inl (cI, nS, Sum.inl zkf_47))] H := ⟨hP, hD⟩
        have hP := hPD.1
        have hD := hPD.2
        refine lv_aload_n hx hb d_RC_model_101 rfl (lv_at hl 1 rfl) ?_
        refine va_get (D := (dC, dI)) (ci := 6) (v := .int (nI (k + 1))) (C := "RangeCoders") (T := T_RC) (N := 8) hx hb hg in_RC hown hK hP 0 rfl rfl 2 (by decide) (hg _ k260) (fun _ h9 => h9) rfl d_RC_model_102 ?_
        refine lv_iconst (v := 1) hx hb d_RC_model_105 (by decide) ?_
        refine lv_isub hx hb d_RC_model_106 ?_
        refine lv_topi (fun v_6 ev_6 => ?_)
        exact my_iretg (v := v_6) hx hb hr (rfl) hlocks hQ hK hS (q_4, zk_47, zkf_47, zo_36, zca_36, zpa_36, ocfq_63, opfq_63, zo_44, zca_44, zpa_44, ocfq_78, opfq_78) (show (0 + 1 + d_36 + d_44 + d_47) + 0 ≤ 1600 by omega) (show (0 + 3 + d_36 + d_44 + d_47) + 0 ≤ 1600 by omega) (⟨by subst_vars; exact nI_pred k, hf_47, hf_63, hl_63, hf_78, hl_78⟩) (hP.sub [0, 1, 6, 2, 10, 3, 4, 5, 7, 8, 9] rfl) (hD.sub [0, 1, 6, 2, 10, 3, 4, 5, 7, 8, 9] (by decide +kernel) rfl) d_RC_model_107
      · exact absurd (show nI k < nI 8 from nI_lt hk (by omega)) c_3
    · exact absurd (show nI nS ≤ nI 64 from nI_le hns (by omega)) c_2
end
section
/-! FORM 4: bits that are WRITTEN, and the bytes that they become -/
def bvL (v : Nat) : Nat → List Nat
  | 0 => []
  | k + 1 => bvL v k ++ [v / 2 ^ k % 2]
theorem bvL_len (v : Nat) : ∀ k, (bvL v k).length = k
  | 0 => rfl
  | k + 1 => by rw [bvL, List.length_append, List.length_singleton, bvL_len v k]
def t4N (f : Nat) : Nat → Nat × List Nat → Nat × List Nat
  | 0, r => r
  | k + 1, r => if 2 * f ≤ r.1 then t4N f k (r.1 / 2, r.2 ++ [r.1 % 2]) else r
theorem t4N_e {f k : Nat} {r : Nat × List Nat} (h : ¬ 2 * f ≤ r.1) : t4N f k r = r := by
  cases k with
  | zero => rfl
  | succ k => rw [t4N, if_neg h]
theorem t4N_s {f k : Nat} {r : Nat × List Nat} (h0 : 0 < k) (h : 2 * f ≤ r.1) : t4N f k r = t4N f (k - 1) (r.1 / 2, r.2 ++ [r.1 % 2]) := by
  cases k with
  | zero => omega
  | succ k => rw [t4N, if_pos h]; rfl
/-- the d-th PLACE of sign x -/
def plO (F : Nat → Nat) (n x d : Nat) : Nat := ((List.range 512).find? (fun p => decide (plc F n p = x ∧ num F n p = d))).getD 0
theorem plO_ok {F : Nat → Nat} {n x d : Nat} (hs : ns F n = 512) (hx : x < n) (hd : d < F x) : plO F n x d < 512 ∧ plc F n (plO F n x d) = x ∧ num F n (plO F n x d) = d := by
  obtain ⟨p, h1, h2, h3⟩ := pl_find hs hx hd
  unfold plO
  cases hf : (List.range 512).find? (fun p => decide (plc F n p = x ∧ num F n p = d)) with
  | none =>
    have := List.find?_eq_none.mp hf p (List.mem_range.mpr h1)
    exact absurd (decide_eq_true ⟨h2, h3⟩) this
  | some q =>
    have a := List.find?_some hf
    have b := List.mem_of_find?_eq_some hf
    have c := of_decide_eq_true a
    exact ⟨List.mem_range.mp b, c.1, c.2⟩
theorem plO_eq {F : Nat → Nat} {n x d p : Nat} (hs : ns F n = 512) (hp : p < 512) (h1 : plc F n p = x) (h2 : num F n p = d) (hx : x < n) : p = plO F n x d := by
  have hd : d < F x := by rw [← h2, ← h1]; exact num_lt hs hp
  obtain ⟨a, b, c⟩ := plO_ok hs hx hd
  generalize plO F n x d = q at a b c ⊢
  unfold num at h2 c
  rw [h1] at h2
  rw [b] at c
  rcases Nat.lt_trichotomy p q with z | z | z
  · have m := cn_mono (plc F n) x (show p + 1 ≤ q from z)
    rw [cn, if_pos h1] at m
    omega
  · exact z
  · have m := cn_mono (plc F n) x (show q + 1 ≤ p from z)
    rw [cn, if_pos b] at m
    omega
def t4I (F : Nat → Nat) (n t : Nat) (r : Nat × List Nat) : Nat × List Nat := (512 + plO F n t ((t4N (F t) 10 r).1 - F t), (t4N (F t) 10 r).2)
def e4I (Fn : Nat → Nat → Nat) (N : Nat → Nat) (it : It) (r : Nat × List Nat) : Nat × List Nat := if it.1 = 0 then (r.1, r.2 ++ bvL it.2.2 it.2.1) else t4I (Fn it.2.1) (N it.2.1) it.2.2 r
def e4N (Fn : Nat → Nat → Nat) (N : Nat → Nat) (its : List It) : Nat → Nat × List Nat → Nat × List Nat
  | 0, r => r
  | k + 1, r => e4N Fn N its k (e4I Fn N (itA its k) r)
/-- all bits that FORM 4 has WRITTEN at its end -/
def e4W (Fn : Nat → Nat → Nat) (N : Nat → Nat) (its : List It) : List Nat := (e4N Fn N its its.length (512, [])).2 ++ bvL ((e4N Fn N its its.length (512, [])).1 - 512) 9
/-- the bit that was WRITTEN i-th from the last -/
def rvB (ws : List Nat) (i : Nat) : Nat := if i < ws.length then ws.getD (ws.length - 1 - i) 0 else 0
def byW (ws : List Nat) (fm : Nat) : Nat → Nat
  | 0 => 0
  | k + 1 => 2 * byW ws fm k + rvB ws (fm + k)
def pkB (ws : List Nat) : Nat → List Nat
  | 0 => []
  | k + 1 => pkB ws k ++ [byW ws (8 * k) 8]
theorem pkB_len (ws : List Nat) : ∀ k, (pkB ws k).length = k
  | 0 => rfl
  | k + 1 => by rw [pkB, List.length_append, List.length_singleton, pkB_len ws k]
theorem rvB_lt {ws : List Nat} (h : bt2 ws) (i : Nat) : rvB ws i < 2 := by
  unfold rvB
  split
  · show byA ws _ < 2; exact bt2_at h
  · decide
theorem byW_lt {ws : List Nat} (h : bt2 ws) (fm : Nat) : ∀ k, byW ws fm k < 2 ^ k
  | 0 => Nat.lt_succ_self 0
  | k + 1 => by
    have a := byW_lt h fm k
    have b := rvB_lt h (fm + k)
    rw [byW, Nat.pow_succ]
    omega
/-- behind the last bit there are noughts -/
theorem byW_0 {ws : List Nat} {fm k : Nat} (h : ws.length ≤ fm + k) : ∀ d, byW ws fm (k + d) = byW ws fm k * 2 ^ d
  | 0 => by rw [Nat.pow_zero, Nat.mul_one]; rfl
  | d + 1 => by
    have e : byW ws fm (k + (d + 1)) = 2 * byW ws fm (k + d) + rvB ws (fm + (k + d)) := rfl
    rw [e, byW_0 h d]
    unfold rvB
    rw [if_neg (by omega), Nat.pow_succ, Nat.add_zero, Nat.mul_comm 2, Nat.mul_assoc]
theorem bt2_app {a b : List Nat} (ha : bt2 a) (hb : bt2 b) : bt2 (a ++ b) := by
  intro x hx
  rcases List.mem_append.mp hx with q | q
  · exact ha x q
  · exact hb x q
theorem bt2_bv (v : Nat) : ∀ k, bt2 (bvL v k)
  | 0 => fun x hx => absurd hx List.not_mem_nil
  | k + 1 => bt2_add (bt2_bv v k) (Nat.mod_lt _ (by decide))
theorem last_i {len i : Nat} (hl : len < 2 ^ 20) (hi : i < 2 ^ 20) : ((nI len - 1) - nI i).toInt = (len : Int) - 1 - i := by
  have e1 : (1 : Int32).toInt = 1 := rfl
  have a : (nI len - 1).toInt = (len : Int) - 1 := by
    rw [Int32.toInt_sub, nI_toInt (by omega), e1]
    apply Int.bmod_eq_of_le <;> omega
  rw [Int32.toInt_sub, a, nI_toInt (by omega)]
  apply Int.bmod_eq_of_le <;> omega
theorem rv_1 {ws : List Nat} {i : Nat} {v : Int32} (hl : ws.length < 2 ^ 20) (hi : i < 2 ^ 20) (ev : v = (nI ws.length - 1) - nI i) (h : 0 ≤ v ∧ v < nI ws.length) : rAt ws v = nI (rvB ws i) := by
  have a := last_i hl hi
  rw [← ev] at a
  have h0 := h.1
  rw [Int32.le_iff_toInt_le, a] at h0
  have e0 : (0 : Int32).toInt = 0 := rfl
  rw [e0] at h0
  have e : v = nI (ws.length - 1 - i) := Int32.toInt_inj.mp (by rw [a, nI_toInt (by omega)]; omega)
  rw [e, rAt_nI (by omega) (by omega)]
  unfold rvB
  rw [if_pos (by omega)]
theorem rv_0 {ws : List Nat} {i : Nat} {v : Int32} (hl : ws.length < 2 ^ 20) (hi : i < 2 ^ 20) (ev : v = (nI ws.length - 1) - nI i) (h : ¬ (0 ≤ v ∧ v < nI ws.length)) : rvB ws i = 0 := by
  have a := last_i hl hi
  rw [← ev] at a
  unfold rvB
  split
  · exfalso
    apply h
    have e0 : (0 : Int32).toInt = 0 := rfl
    rw [Int32.le_iff_toInt_le, Int32.lt_iff_toInt_lt, a, e0, nI_toInt (by omega)]
    omega
  · rfl
theorem pw_k {x k : Nat} (h : x < 2 ^ k) (h2 : 2 ≤ x) : 2 ≤ k := by
  rcases Nat.lt_or_ge k 2 with q | q
  · have : k = 0 ∨ k = 1 := by omega
    rcases this with e | e <;> subst e <;> omega
  · exact q
theorem pw_h {x k : Nat} (h : x < 2 ^ k) (hk : 1 ≤ k) : x / 2 < 2 ^ (k - 1) := by
  obtain ⟨q, rfl⟩ : ∃ q, k = q + 1 := ⟨k - 1, by omega⟩
  rw [Nat.add_sub_cancel]
  rw [Nat.pow_succ] at h
  omega
end
