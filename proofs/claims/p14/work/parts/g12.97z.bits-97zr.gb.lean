section
set_option maxHeartbeats 2000000 in
set_option maxRecDepth 100000 in
theorem f_Bits_keepReading (l : Launch) (dC : Nat → ClassId) (dI : Nat → Nat → Nat) (cI cM cO : ClassId) (sz : Nat) (co : Nat) (xshift : Int32) (xkeptCode : Int64) (xkeptRange : Int64) (xkeptAsked : Int32) (xcache : Int32) (xpending : Int32) (xlow : Int64) (xrange : Int64) (xcode : Int64) (xreadLow : Int64) (xreadRange : Int64) (ri : Nat) (ro : Nat) (rw : Nat) (xasked : Int32) : MetV l y_Bits_keepReading (Cond.code y_Bits_keepReading prog_2_method_13_code 1 none :: gw) ({ frames := 0, cells := 0, slots := 0, locals := 0 } : Room) (dC, dI) vwCl (kT cI cM cO) [Value.ref co] [(co, Sum.inr (3, [Value.int xshift, Value.long xkeptCode, Value.long xkeptRange, Value.int xkeptAsked, Value.int xcache, Value.int xpending, Value.long xlow, Value.long xrange, Value.long xcode, Value.long xreadLow, Value.long xreadRange, Value.ref ri, Value.ref ro, Value.ref rw, Value.int xasked]))] sz (fun (u : Unit) => True) (fun (u : Unit) => [(co, Sum.inr (3, [Value.int xshift, Value.long xcode, Value.long xreadRange, Value.int xasked, Value.int xcache, Value.int xpending, Value.long xlow, Value.long xrange, Value.long xcode, Value.long xreadLow, Value.long xreadRange, Value.ref ri, Value.ref ro, Value.ref rw, Value.int xasked]))]) 0 0 := by
  refine my_ofV (cc := prog_2_method_13_code) (n := 1) (ret := none) (by decide) rfl (Nat.le_of_ble_eq_true rfl) ?_
  intro p e s m args below meth c R Q A ls H locs hx hb hr hts hown hlocks hml hnm hR hQ hA hl hP hK hN hD hS
  have hg : ∀ w ∈ gw, w.before args s = true := fun w h => hts w (List.mem_cons_of_mem _ h)
  have hown : s.vm.findClass "RangeCoders$Bits" = some m.cls := hown
  have hl : lv_has ls 1 [(0, Value.ref co)] := hl
  refine lv_aload_n hx hb d_Bits_keepReading_0 rfl (lv_at hl 0 rfl) ?_
  refine lv_aload_n hx hb d_Bits_keepReading_1 rfl (lv_at hl 0 rfl) ?_
  refine va_get (D := (dC, dI)) (ci := 3) (v := .long xcode) (C := "RangeCoders$Bits") (T := T_Bits) (N := 15) hx hb hg in_Bits hown hK hP 0 rfl rfl 8 (by decide) (hg _ k88) (fun x9 h9 => u_same (hg _ k89) x9 h9) rfl d_Bits_keepReading_2 ?_
  refine va_put (D := (dC, dI)) (ci := 3) (v := .long xcode) (ty := .long) (C := "RangeCoders$Bits") (T := T_Bits) (N := 15) hx hb hg in_Bits t_Bits o_Bits n_Bits hown hK hP hD hS 0 rfl rfl 1 (by decide) (hg _ k177) (fun _ h9 => h9) rfl (o_Bits 1 (by decide)) rfl rfl (Nat.le_of_ble_eq_true rfl) d_Bits_keepReading_5 (fun H locs hP hD hS => ?_)
  have hPD : my_PD (dC, dI) vwCl A [(co, Sum.inr (3, [Value.int xshift, Value.long xcode, Value.long xkeptRange, Value.int xkeptAsked, Value.int xcache, Value.int xpending, Value.long xlow, Value.long xrange, Value.long xcode, Value.long xreadLow, Value.long xreadRange, Value.ref ri, Value.ref ro, Value.ref rw, Value.int xasked]))] H := ⟨hP, hD⟩
  have hP := hPD.1
  have hD := hPD.2
  refine lv_aload_n hx hb d_Bits_keepReading_8 rfl (lv_at hl 0 rfl) ?_
  refine lv_aload_n hx hb d_Bits_keepReading_9 rfl (lv_at hl 0 rfl) ?_
  refine va_get (D := (dC, dI)) (ci := 3) (v := .long xreadRange) (C := "RangeCoders$Bits") (T := T_Bits) (N := 15) hx hb hg in_Bits hown hK hP 0 rfl rfl 10 (by decide) (hg _ k98) (fun x9 h9 => u_same (hg _ k99) x9 h9) rfl d_Bits_keepReading_10 ?_
  refine va_put (D := (dC, dI)) (ci := 3) (v := .long xreadRange) (ty := .long) (C := "RangeCoders$Bits") (T := T_Bits) (N := 15) hx hb hg in_Bits t_Bits o_Bits n_Bits hown hK hP hD hS 0 rfl rfl 2 (by decide) (hg _ k178) (fun _ h9 => h9) rfl (o_Bits 2 (by decide)) rfl rfl (Nat.le_of_ble_eq_true rfl) d_Bits_keepReading_13 (fun H locs hP hD hS => ?_)
  have hPD : my_PD (dC, dI) vwCl A [(co, Sum.inr (3, [Value.int xshift, Value.long xcode, Value.long xreadRange, Value.int xkeptAsked, Value.int xcache, Value.int xpending, Value.long xlow, Value.long xrange, Value.long xcode, Value.long xreadLow, Value.long xreadRange, Value.ref ri, Value.ref ro, Value.ref rw, Value.int xasked]))] H := ⟨hP, hD⟩
  have hP := hPD.1
  have hD := hPD.2
  refine lv_aload_n hx hb d_Bits_keepReading_16 rfl (lv_at hl 0 rfl) ?_
  refine lv_aload_n hx hb d_Bits_keepReading_17 rfl (lv_at hl 0 rfl) ?_
  refine va_get (D := (dC, dI)) (ci := 3) (v := .int xasked) (C := "RangeCoders$Bits") (T := T_Bits) (N := 15) hx hb hg in_Bits hown hK hP 0 rfl rfl 14 (by decide) (hg _ k128) (fun x9 h9 => u_same (hg _ k129) x9 h9) rfl d_Bits_keepReading_18 ?_
  refine va_put (D := (dC, dI)) (ci := 3) (v := .int xasked) (ty := .int) (C := "RangeCoders$Bits") (T := T_Bits) (N := 15) hx hb hg in_Bits t_Bits o_Bits n_Bits hown hK hP hD hS 0 rfl rfl 3 (by decide) (hg _ k179) (fun _ h9 => h9) rfl (o_Bits 3 (by decide)) rfl rfl (Nat.le_of_ble_eq_true rfl) d_Bits_keepReading_21 (fun H locs hP hD hS => ?_)
  have hPD : my_PD (dC, dI) vwCl A [(co, Sum.inr (3, [Value.int xshift, Value.long xcode, Value.long xreadRange, Value.int xasked, Value.int xcache, Value.int xpending, Value.long xlow, Value.long xrange, Value.long xcode, Value.long xreadLow, Value.long xreadRange, Value.ref ri, Value.ref ro, Value.ref rw, Value.int xasked]))] H := ⟨hP, hD⟩
  have hP := hPD.1
  have hD := hPD.2
  exact my_vret hx hb hr hlocks hQ hK hS (Nat.le_refl _) (Nat.le_refl _) () (trivial) (hP.sub [0] rfl) (hD.sub [0] (by decide +kernel) rfl) d_Bits_keepReading_24
set_option maxHeartbeats 2000000 in
set_option maxRecDepth 100000 in
theorem f_Bits_undone (l : Launch) (dC : Nat → ClassId) (dI : Nat → Nat → Nat) (cI cM cO : ClassId) (sz : Nat) (co : Nat) (xshift : Int32) (xkeptCode : Int64) (xkeptRange : Int64) (xkeptAsked : Int32) (xcache : Int32) (xpending : Int32) (xlow : Int64) (xrange : Int64) (xcode : Int64) (xreadLow : Int64) (xreadRange : Int64) (ri : Nat) (ro : Nat) (rw : Nat) (xasked : Int32) : MetI l y_Bits_undone (Cond.code y_Bits_undone prog_2_method_14_code 1 (some .int) :: gw) ({ frames := 0, cells := 0, slots := 0, locals := 0 } : Room) (dC, dI) vwCl (kT cI cM cO) [Value.ref co] [(co, Sum.inr (3, [Value.int xshift, Value.long xkeptCode, Value.long xkeptRange, Value.int xkeptAsked, Value.int xcache, Value.int xpending, Value.long xlow, Value.long xrange, Value.long xcode, Value.long xreadLow, Value.long xreadRange, Value.ref ri, Value.ref ro, Value.ref rw, Value.int xasked]))] sz (fun (r : Int32) (u : Unit) => r = -1) (fun (u : Unit) => [(co, Sum.inr (3, [Value.int xshift, Value.long xkeptCode, Value.long xkeptRange, Value.int xkeptAsked, Value.int xcache, Value.int xpending, Value.long xlow, Value.long xrange, Value.long xkeptCode, Value.long xreadLow, Value.long xkeptRange, Value.ref ri, Value.ref ro, Value.ref rw, Value.int xkeptAsked]))]) 0 0 := by
  refine my_ofI (cc := prog_2_method_14_code) (n := 1) (ret := (some .int)) (by decide) rfl (Nat.le_of_ble_eq_true rfl) ?_
  intro p e s m args below meth c R Q A ls H locs hx hb hr hts hown hlocks hml hnm hR hQ hA hl hP hK hN hD hS
  have hg : ∀ w ∈ gw, w.before args s = true := fun w h => hts w (List.mem_cons_of_mem _ h)
  have hown : s.vm.findClass "RangeCoders$Bits" = some m.cls := hown
  have hl : lv_has ls 1 [(0, Value.ref co)] := hl
  refine lv_aload_n hx hb d_Bits_undone_0 rfl (lv_at hl 0 rfl) ?_
  refine lv_aload_n hx hb d_Bits_undone_1 rfl (lv_at hl 0 rfl) ?_
  refine va_get (D := (dC, dI)) (ci := 3) (v := .long xkeptCode) (C := "RangeCoders$Bits") (T := T_Bits) (N := 15) hx hb hg in_Bits hown hK hP 0 rfl rfl 1 (by decide) (hg _ k177) (fun _ h9 => h9) rfl d_Bits_undone_2 ?_
  refine va_put (D := (dC, dI)) (ci := 3) (v := .long xkeptCode) (ty := .long) (C := "RangeCoders$Bits") (T := T_Bits) (N := 15) hx hb hg in_Bits t_Bits o_Bits n_Bits hown hK hP hD hS 0 rfl rfl 8 (by decide) (hg _ k88) (fun x9 h9 => u_same (hg _ k89) x9 h9) rfl (o_Bits 8 (by decide)) rfl rfl (Nat.le_of_ble_eq_true rfl) d_Bits_undone_5 (fun H locs hP hD hS => ?_)
  have hPD : my_PD (dC, dI) vwCl A [(co, Sum.inr (3, [Value.int xshift, Value.long xkeptCode, Value.long xkeptRange, Value.int xkeptAsked, Value.int xcache, Value.int xpending, Value.long xlow, Value.long xrange, Value.long xkeptCode, Value.long xreadLow, Value.long xreadRange, Value.ref ri, Value.ref ro, Value.ref rw, Value.int xasked]))] H := ⟨hP, hD⟩
  have hP := hPD.1
  have hD := hPD.2
  refine lv_aload_n hx hb d_Bits_undone_8 rfl (lv_at hl 0 rfl) ?_
  refine lv_aload_n hx hb d_Bits_undone_9 rfl (lv_at hl 0 rfl) ?_
  refine va_get (D := (dC, dI)) (ci := 3) (v := .long xkeptRange) (C := "RangeCoders$Bits") (T := T_Bits) (N := 15) hx hb hg in_Bits hown hK hP 0 rfl rfl 2 (by decide) (hg _ k178) (fun _ h9 => h9) rfl d_Bits_undone_10 ?_
  refine va_put (D := (dC, dI)) (ci := 3) (v := .long xkeptRange) (ty := .long) (C := "RangeCoders$Bits") (T := T_Bits) (N := 15) hx hb hg in_Bits t_Bits o_Bits n_Bits hown hK hP hD hS 0 rfl rfl 10 (by decide) (hg _ k98) (fun x9 h9 => u_same (hg _ k99) x9 h9) rfl (o_Bits 10 (by decide)) rfl rfl (Nat.le_of_ble_eq_true rfl) d_Bits_undone_13 (fun H locs hP hD hS => ?_)
  have hPD : my_PD (dC, dI) vwCl A [(co, Sum.inr (3, [Value.int xshift, Value.long xkeptCode, Value.long xkeptRange, Value.int xkeptAsked, Value.int xcache, Value.int xpending, Value.long xlow, Value.long xrange, Value.long xkeptCode, Value.long xreadLow, Value.long xkeptRange, Value.ref ri, Value.ref ro, Value.ref rw, Value.int xasked]))] H := ⟨hP, hD⟩
  have hP := hPD.1
  have hD := hPD.2
  refine lv_aload_n hx hb d_Bits_undone_16 rfl (lv_at hl 0 rfl) ?_
  refine lv_aload_n hx hb d_Bits_undone_17 rfl (lv_at hl 0 rfl) ?_
  refine va_get (D := (dC, dI)) (ci := 3) (v := .int xkeptAsked) (C := "RangeCoders$Bits") (T := T_Bits) (N := 15) hx hb hg in_Bits hown hK hP 0 rfl rfl 3 (by decide) (hg _ k179) (fun _ h9 => h9) rfl d_Bits_undone_18 ?_
  refine va_put (D := (dC, dI)) (ci := 3) (v := .int xkeptAsked) (ty := .int) (C := "RangeCoders$Bits") (T := T_Bits) (N := 15) hx hb hg in_Bits t_Bits o_Bits n_Bits hown hK hP hD hS 0 rfl rfl 14 (by decide) (hg _ k128) (fun x9 h9 => u_same (hg _ k129) x9 h9) rfl (o_Bits 14 (by decide)) rfl rfl (Nat.le_of_ble_eq_true rfl) d_Bits_undone_21 (fun H locs hP hD hS => ?_)
  have hPD : my_PD (dC, dI) vwCl A [(co, Sum.inr (3, [Value.int xshift, Value.long xkeptCode, Value.long xkeptRange, Value.int xkeptAsked, Value.int xcache, Value.int xpending, Value.long xlow, Value.long xrange, Value.long xkeptCode, Value.long xreadLow, Value.long xkeptRange, Value.ref ri, Value.ref ro, Value.ref rw, Value.int xkeptAsked]))] H := ⟨hP, hD⟩
  have hP := hPD.1
  have hD := hPD.2
  refine lv_iconst (v := (-1)) hx hb d_Bits_undone_24 (by decide) ?_
  exact my_iret (v := (-1)) hx hb hr (rfl) hlocks hQ hK hS (Nat.le_refl _) (Nat.le_refl _) () (rfl) (hP.sub [0] rfl) (hD.sub [0] (by decide +kernel) rfl) d_Bits_undone_25
set_option maxHeartbeats 2000000 in
set_option maxRecDepth 100000 in
theorem f_Bits_nextBit (l : Launch) (dC : Nat → ClassId) (dI : Nat → Nat → Nat) (cI cM cO : ClassId) (sz : Nat) (co : Nat) (xkeptCode : Int64) (xkeptRange : Int64) (xkeptAsked : Int32) (xcache : Int32) (xpending : Int32) (xlow : Int64) (xrange : Int64) (xreadLow : Int64) (ri : Nat) (ro : Nat) (rw : Nat) (ria : Nat) (rik : Nat) (rif : Nat → Int32) (is : List Nat) (RR : Nat) (CD : Nat) (q : Nat) (oo : Nat) (osg : Int32) (ofc : Int32) (oca : Nat) (opa : Nat) (n : Nat) (ocf : Nat → Int32) (opl : Nat) (opf : Nat → Int32) (osm : Int32) (nd : Nat) (pp : Nat) (sh : Nat) (hri : rOk (nI is.length) rik) (hGri : gIs rif is) (hLri : is.length ≤ 6000) (hoct : oct is) (hn : n ≤ 64) (hpl : opl ≤ 512) (hnd0 : 1 ≤ nd) (hnd : nd < n) (hofc : ofc = 1) (hp : ocf nd = nI pp) (hp1 : 1 ≤ pp) (hp2 : pp ≤ 2047) (hsh : sh ≤ 10) (hI : rInv (RR, CD, q)) (hq : q < 900000000) : MetI l y_Bits_nextBit (Cond.code y_Bits_nextBit prog_2_method_11_code 6 (some .int) :: gw) ({ frames := 4, cells := 0, slots := 0, locals := 84 } : Room) (dC, dI) vwCl (kT cI cM cO) [Value.ref co, Value.ref oo, Value.int (nI nd)] [(co, Sum.inr (3, [Value.int (nI sh), Value.long xkeptCode, Value.long xkeptRange, Value.int xkeptAsked, Value.int xcache, Value.int xpending, Value.long xlow, Value.long xrange, Value.long (lN CD), Value.long xreadLow, Value.long (lN RR), Value.ref ri, Value.ref ro, Value.ref rw, Value.int (nI q)])), (ri, Sum.inr (0, [Value.int (nI is.length), Value.ref ria])), (ria, Sum.inl (cI, rik, Sum.inl rif)), (oo, Sum.inr (7, [Value.int osg, Value.int osm, Value.int ofc, Value.ref oca, Value.ref opa])), (oca, Sum.inl (cI, n, Sum.inl ocf)), (opa, Sum.inl (cI, opl, Sum.inl opf))] sz (fun (r : Int32) (u : Int32 × (Nat → Int32)) => r = nI (rbt (RR / 2048 * pp) CD) ∧ u.2 = upd ocf nd (nI (mvC sh (rbt (RR / 2048 * pp) CD) pp))) (fun (u : Int32 × (Nat → Int32)) => [(co, Sum.inr (3, [Value.int (nI sh), Value.long xkeptCode, Value.long xkeptRange, Value.int xkeptAsked, Value.int xcache, Value.int xpending, Value.long xlow, Value.long xrange, Value.long (lN (wrS is (rbS (RR / 2048 * pp) RR CD q)).2.1), Value.long xreadLow, Value.long (lN (wrS is (rbS (RR / 2048 * pp) RR CD q)).1), Value.ref ri, Value.ref ro, Value.ref rw, Value.int (nI (wrS is (rbS (RR / 2048 * pp) RR CD q)).2.2)])), (ri, Sum.inr (0, [Value.int (nI is.length), Value.ref ria])), (ria, Sum.inl (cI, rik, Sum.inl rif)), (oo, Sum.inr (7, [Value.int osg, Value.int u.1, Value.int ofc, Value.ref oca, Value.ref opa])), (oca, Sum.inl (cI, n, Sum.inl u.2)), (opa, Sum.inl (cI, opl, Sum.inl opf))]) 0 0 := by
  refine my_ofI (cc := prog_2_method_11_code) (n := 6) (ret := (some .int)) (by decide) rfl (Nat.le_of_ble_eq_true rfl) ?_
  intro p e s m args below meth c R Q A ls H locs hx hb hr hts hown hlocks hml hnm hR hQ hA hl hP hK hN hD hS
  have hg : ∀ w ∈ gw, w.before args s = true := fun w h => hts w (List.mem_cons_of_mem _ h)
  have hown : s.vm.findClass "RangeCoders$Bits" = some m.cls := hown
  have hl : lv_has ls 6 [(0, Value.ref co), (1, Value.ref oo), (2, Value.int (nI nd))] := hl
  have hlti := rOk_lt hri
  obtain ⟨hI1, hI2, hI3⟩ := id hI
  simp only at hI1 hI2 hI3
  have hq1 : 8192 ≤ RR / 2048 := by omega
  have hq2 : RR / 2048 * pp ≤ RR / 2048 * 2047 := Nat.mul_le_mul_left _ hp2
  have hq3 : RR / 2048 * 1 ≤ RR / 2048 * pp := Nat.mul_le_mul_left _ hp1
  generalize hb9 : RR / 2048 * pp = bb at hq2 hq3
  have hb2 := rbt_lt bb CD
  refine lv_aload_n hx hb d_Bits_nextBit_0 rfl (lv_at hl 0 rfl) ?_
  refine va_get (D := (dC, dI)) (ci := 3) (v := .long (lN RR)) (C := "RangeCoders$Bits") (T := T_Bits) (N := 15) hx hb hg in_Bits hown hK hP 0 rfl rfl 10 (by decide) (hg _ k98) (fun x9 h9 => u_same (hg _ k99) x9 h9) rfl d_Bits_nextBit_1 ?_
  refine lv_bipush (v := 11) hx hb d_Bits_nextBit_4 (by decide) ?_
  refine lv_lushr hx hb d_Bits_nextBit_6 rfl ?_
  refine lv_topl (fun v_1 ev_1 => ?_)
  refine lv_aload_n hx hb d_Bits_nextBit_7 rfl (lv_at hl 1 rfl) ?_
  refine lv_iload_n hx hb d_Bits_nextBit_8 rfl (lv_at hl 2 rfl) ?_
  refine my_ci (wr := [(co, Sum.inr (3, [Value.int (nI sh), Value.long xkeptCode, Value.long xkeptRange, Value.int xkeptAsked, Value.int xcache, Value.int xpending, Value.long xlow, Value.long xrange, Value.long (lN CD), Value.long xreadLow, Value.long (lN RR), Value.ref ri, Value.ref ro, Value.ref rw, Value.int (nI q)])), (ri, Sum.inr (0, [Value.int (nI is.length), Value.ref ria])), (ria, Sum.inl (cI, rik, Sum.inl rif))]) (va_runV (As := [Value.int (nI nd)]) (rest := [Value.long v_1]) ⟨hx, hb, hml, hown, hts⟩ (f_Odds_at l dC dI cI cM cO H.size oo osg ofc oca opa n ocf opl opf osm nd (by first | assumption | omega) (by first | assumption | omega) (hnd) (by rw [hofc]; exact nI_le (a := 1) hnd0 (by omega))) (cwV 1 hts (my_gV k449 k436 k437 k14 k438) rfl rfl rfl cu_Odds_at_1 ⟨by rw [hR]; exact Nat.le_of_ble_eq_true rfl, by rw [hR]; exact Nat.le_of_ble_eq_true rfl⟩) (my_preV hK hN (hP.sub [3, 4, 5] rfl) (hD.sub [3, 4, 5] (by decide +kernel) rfl) 0 rfl rfl) rfl rfl hl.1 rfl (lv_room (Nat.le_of_ble_eq_true rfl)) d_Bits_nextBit_9 ⟨by rw [hR]; exact Nat.le_of_ble_eq_true rfl, by rw [hR]; exact Nat.le_of_ble_eq_true rfl⟩) hP hD hS hA [3, 4, 5] [0, 1, 2] rfl rfl (by decide +kernel) (by decide +kernel) (fun r_9 u9 H locs hw_9 hP hD hS => ?_)
  have hr_9 : r_9 = ocf nd := hw_9
  have hPD : my_PD (dC, dI) vwCl A [(co, Sum.inr (3, [Value.int (nI sh), Value.long xkeptCode, Value.long xkeptRange, Value.int xkeptAsked, Value.int xcache, Value.int xpending, Value.long xlow, Value.long xrange, Value.long (lN CD), Value.long xreadLow, Value.long (lN RR), Value.ref ri, Value.ref ro, Value.ref rw, Value.int (nI q)])), (ri, Sum.inr (0, [Value.int (nI is.length), Value.ref ria])), (ria, Sum.inl (cI, rik, Sum.inl rif)), (oo, Sum.inr (7, [Value.int osg, Value.int osm, Value.int ofc, Value.ref oca, Value.ref opa])), (oca, Sum.inl (cI, n, Sum.inl ocf)), (opa, Sum.inl (cI, opl, Sum.inl opf))] H := ⟨hP, hD⟩
  have hP := hPD.1
  have hD := hPD.2
  rw [hp] at hr_9
  have z9 : r_9 = nI pp := hr_9
  subst z9
  refine lv_i2l hx hb d_Bits_nextBit_12 rfl ?_
  refine lv_topl (fun v_2 ev_2 => ?_)
  refine lv_lmul hx hb d_Bits_nextBit_13 ?_
  refine lv_topl (fun v_3 ev_3 => ?_)
  have z9 : v_3 = lN bb := by subst_vars; rw [U_shr11 (by omega), nI_l (by omega), lN_mul]
  subst z9
  refine lv_lstore_n (lv' := [(3, Value.long (lN bb)), (0, Value.ref co), (1, Value.ref oo), (2, Value.int (nI nd))]) hx hb d_Bits_nextBit_14 rfl hl (by decide) rfl (fun ls hl => ?_)
  refine lv_aload_n hx hb d_Bits_nextBit_15 rfl (lv_at hl 1 rfl) ?_
  refine va_get (D := (dC, dI)) (ci := 3) (v := .long (lN CD)) (C := "RangeCoders$Bits") (T := T_Bits) (N := 15) hx hb hg in_Bits hown hK hP 0 rfl rfl 8 (by decide) (hg _ k88) (fun x9 h9 => u_same (hg _ k89) x9 h9) rfl d_Bits_nextBit_16 ?_
  refine lv_lload_n hx hb d_Bits_nextBit_19 rfl (lv_at hl 0 rfl) ?_
  refine W.lcmp hx hb d_Bits_nextBit_20 ?_
  refine lv_if_ge (tgt := 28) hx hb d_Bits_nextBit_21 (by decide) (fun c_4 => ?_) (fun c_4 => ?_)
  · rw [lg_cmp_ge] at c_4
    refine lv_iconst (v := 1) hx hb d_Bits_nextBit_28 (by decide) ?_
    have hlb : ¬ CD < bb := by have z := (L_le (by omega) (by omega)).mp c_4; omega
    have hbt9 : rbt bb CD = 1 := rbt_1 hlb
    refine W.eq (g2 := F0 m 29 ls [Value.int (nI (rbt bb CD))]) (by rw [hbt9]; rfl) ?_
    refine lv_istore (lv' := [(5, Value.int (nI (rbt bb CD))), (3, Value.long (lN bb)), (0, Value.ref co), (1, Value.ref oo), (2, Value.int (nI nd))]) hx hb d_Bits_nextBit_29 hl (by decide) rfl (fun ls hl => ?_)
    refine lv_iload hx hb d_Bits_nextBit_31 (lv_at hl 0 rfl) ?_
    refine lv_if_ne (tgt := 44) hx hb d_Bits_nextBit_33 (by decide) (fun c_5 => ?_) (fun c_5 => ?_)
    · refine lv_aload_n hx hb d_Bits_nextBit_44 rfl (lv_at hl 2 rfl) ?_
      refine lv_dup hx hb d_Bits_nextBit_45 rfl ?_
      refine va_get (D := (dC, dI)) (ci := 3) (v := .long (lN CD)) (C := "RangeCoders$Bits") (T := T_Bits) (N := 15) hx hb hg in_Bits hown hK hP 0 rfl rfl 8 (by decide) (hg _ k88) (fun x9 h9 => u_same (hg _ k89) x9 h9) rfl d_Bits_nextBit_46 ?_
      refine lv_lload_n hx hb d_Bits_nextBit_49 rfl (lv_at hl 1 rfl) ?_
      refine lv_lsub hx hb d_Bits_nextBit_50 ?_
      refine lv_topl (fun v_6 ev_6 => ?_)
      have z9 : v_6 = lN (CD - bb) := by rw [ev_6]; exact lN_sub (by omega)
      subst z9
      refine va_put (D := (dC, dI)) (ci := 3) (v := .long (lN (CD - bb))) (ty := .long) (C := "RangeCoders$Bits") (T := T_Bits) (N := 15) hx hb hg in_Bits t_Bits o_Bits n_Bits hown hK hP hD hS 0 rfl rfl 8 (by decide) (hg _ k88) (fun x9 h9 => u_same (hg _ k89) x9 h9) rfl (o_Bits 8 (by decide)) rfl rfl (Nat.le_of_ble_eq_true rfl) d_Bits_nextBit_51 (fun H locs hP hD hS => ?_)
      have hPD : my_PD (dC, dI) vwCl A [(co, Sum.inr (3, [Value.int (nI sh), Value.long xkeptCode, Value.long xkeptRange, Value.int xkeptAsked, Value.int xcache, Value.int xpending, Value.long xlow, Value.long xrange, Value.long (lN (CD - bb)), Value.long xreadLow, Value.long (lN RR), Value.ref ri, Value.ref ro, Value.ref rw, Value.int (nI q)])), (ri, Sum.inr (0, [Value.int (nI is.length), Value.ref ria])), (ria, Sum.inl (cI, rik, Sum.inl rif)), (oo, Sum.inr (7, [Value.int osg, Value.int osm, Value.int ofc, Value.ref oca, Value.ref opa])), (oca, Sum.inl (cI, n, Sum.inl ocf)), (opa, Sum.inl (cI, opl, Sum.inl opf))] H := ⟨hP, hD⟩
      have hP := hPD.1
      have hD := hPD.2
      refine lv_aload_n hx hb d_Bits_nextBit_54 rfl (lv_at hl 2 rfl) ?_
      refine lv_dup hx hb d_Bits_nextBit_55 rfl ?_
      refine va_get (D := (dC, dI)) (ci := 3) (v := .long (lN RR)) (C := "RangeCoders$Bits") (T := T_Bits) (N := 15) hx hb hg in_Bits hown hK hP 0 rfl rfl 10 (by decide) (hg _ k98) (fun x9 h9 => u_same (hg _ k99) x9 h9) rfl d_Bits_nextBit_56 ?_
      refine lv_lload_n hx hb d_Bits_nextBit_59 rfl (lv_at hl 1 rfl) ?_
      refine lv_lsub hx hb d_Bits_nextBit_60 ?_
      refine lv_topl (fun v_7 ev_7 => ?_)
      have z9 : v_7 = lN (RR - bb) := by rw [ev_7]; exact lN_sub (by omega)
      subst z9
      refine va_put (D := (dC, dI)) (ci := 3) (v := .long (lN (RR - bb))) (ty := .long) (C := "RangeCoders$Bits") (T := T_Bits) (N := 15) hx hb hg in_Bits t_Bits o_Bits n_Bits hown hK hP hD hS 0 rfl rfl 10 (by decide) (hg _ k98) (fun x9 h9 => u_same (hg _ k99) x9 h9) rfl (o_Bits 10 (by decide)) rfl rfl (Nat.le_of_ble_eq_true rfl) d_Bits_nextBit_61 (fun H locs hP hD hS => ?_)
      have hPD : my_PD (dC, dI) vwCl A [(co, Sum.inr (3, [Value.int (nI sh), Value.long xkeptCode, Value.long xkeptRange, Value.int xkeptAsked, Value.int xcache, Value.int xpending, Value.long xlow, Value.long xrange, Value.long (lN (CD - bb)), Value.long xreadLow, Value.long (lN (RR - bb)), Value.ref ri, Value.ref ro, Value.ref rw, Value.int (nI q)])), (ri, Sum.inr (0, [Value.int (nI is.length), Value.ref ria])), (ria, Sum.inl (cI, rik, Sum.inl rif)), (oo, Sum.inr (7, [Value.int osg, Value.int osm, Value.int ofc, Value.ref oca, Value.ref opa])), (oca, Sum.inl (cI, n, Sum.inl ocf)), (opa, Sum.inl (cI, opl, Sum.inl opf))] H := ⟨hP, hD⟩
      have hP := hPD.1
      have hD := hPD.2
      refine lv_aload_n hx hb d_Bits_nextBit_64 rfl (lv_at hl 2 rfl) ?_
      refine lv_aload_n hx hb d_Bits_nextBit_65 rfl (lv_at hl 3 rfl) ?_
      refine lv_iload_n hx hb d_Bits_nextBit_66 rfl (lv_at hl 4 rfl) ?_
      refine lv_iload hx hb d_Bits_nextBit_67 (lv_at hl 0 rfl) ?_
      refine my_cv (wr := [(ri, Sum.inr (0, [Value.int (nI is.length), Value.ref ria])), (ria, Sum.inl (cI, rik, Sum.inl rif))]) (va_runV (As := [Value.ref oo, Value.int (nI nd), Value.int (nI (rbt bb CD))]) (rest := []) ⟨hx, hb, hml, hown, hts⟩ (f_Bits_adapt l dC dI cI cM cO H.size co xkeptCode xkeptRange xkeptAsked xcache xpending xlow xrange (lN (CD - bb)) xreadLow (lN (RR - bb)) ri ro rw (nI q) oo osg ofc oca opa n ocf opl opf osm nd pp (rbt bb CD) sh (by first | assumption | omega) (by first | assumption | omega) (by first | assumption | omega) (by first | assumption | omega) (by first | assumption | omega) (by first | assumption | omega) (by omega) (by first | assumption | omega) (hb2)) (cwV 3 hts (my_gV k450 k452 ks5 k8 k453) rfl rfl rfl cu_Bits_adapt_3 ⟨by rw [hR]; exact Nat.le_of_ble_eq_true rfl, by rw [hR]; exact Nat.le_of_ble_eq_true rfl⟩) (my_preV hK hN (hP.sub [0, 3, 4, 5] rfl) (hD.sub [0, 3, 4, 5] (by decide +kernel) rfl) 0 rfl rfl) rfl rfl hl.1 rfl (lv_room (Nat.le_of_ble_eq_true rfl)) d_Bits_nextBit_69 ⟨by rw [hR]; exact Nat.le_of_ble_eq_true rfl, by rw [hR]; exact Nat.le_of_ble_eq_true rfl⟩) hP hD hS hA [0, 3, 4, 5] [1, 2] rfl rfl (by decide +kernel) (by decide +kernel) (fun u9 H locs hw_69 hP hD hS => ?_)
      obtain ⟨osmq_69, ocfq_69⟩ := u9
      have hc_69 : ocfq_69 = upd ocf nd (nI (mvC sh (rbt bb CD) pp)) := hw_69
      have hPD : my_PD (dC, dI) vwCl A [(ri, Sum.inr (0, [Value.int (nI is.length), Value.ref ria])), (ria, Sum.inl (cI, rik, Sum.inl rif)), (co, Sum.inr (3, [Value.int (nI sh), Value.long xkeptCode, Value.long xkeptRange, Value.int xkeptAsked, Value.int xcache, Value.int xpending, Value.long xlow, Value.long xrange, Value.long (lN (CD - bb)), Value.long xreadLow, Value.long (lN (RR - bb)), Value.ref ri, Value.ref ro, Value.ref rw, Value.int (nI q)])), (oo, Sum.inr (7, [Value.int osg, Value.int osmq_69, Value.int ofc, Value.ref oca, Value.ref opa])), (oca, Sum.inl (cI, n, Sum.inl ocfq_69)), (opa, Sum.inl (cI, opl, Sum.inl opf))] H := ⟨hP, hD⟩
      have hP := hPD.1
      have hD := hPD.2
      refine lv_aload_n hx hb d_Bits_nextBit_72 rfl (lv_at hl 2 rfl) ?_
      refine my_cv (wr := [(oo, Sum.inr (7, [Value.int osg, Value.int osmq_69, Value.int ofc, Value.ref oca, Value.ref opa])), (oca, Sum.inl (cI, n, Sum.inl ocfq_69)), (opa, Sum.inl (cI, opl, Sum.inl opf))]) (va_runU (As := []) (rest := []) ⟨hx, hb, hml, hown, hts⟩ (f_Bits_widenReading l dC dI cI cM cO H.size co (nI sh) xkeptCode xkeptRange xkeptAsked xcache xpending xlow xrange xreadLow ri ro rw ria rik rif is (RR - bb) (CD - bb) q (hri) (hGri) (hLri) (hoct) (by omega) (by omega) (by omega) (hq)) (va_cwU 0 hts (my_gU k789 k790 k792 k793 k5 k794) rfl rfl rfl rfl (by decide +kernel) ⟨by rw [hR]; exact Nat.le_of_ble_eq_true rfl, by rw [hR]; exact Nat.le_of_ble_eq_true rfl⟩) (my_preV hK hN (hP.sub [2, 0, 1] rfl) (hD.sub [2, 0, 1] (by decide +kernel) rfl) 0 rfl rfl) rfl rfl hl.1 rfl (lv_room (Nat.le_of_ble_eq_true rfl)) d_Bits_nextBit_73 ⟨by rw [hR]; exact Nat.le_of_ble_eq_true rfl, by rw [hR]; exact Nat.le_of_ble_eq_true rfl⟩) hP hD hS hA [2, 0, 1] [3, 4, 5] rfl rfl (by decide +kernel) (by decide +kernel) (fun u9 H locs hw_73 hP hD hS => ?_)
      have hPD : my_PD (dC, dI) vwCl A [(oo, Sum.inr (7, [Value.int osg, Value.int osmq_69, Value.int ofc, Value.ref oca, Value.ref opa])), (oca, Sum.inl (cI, n, Sum.inl ocfq_69)), (opa, Sum.inl (cI, opl, Sum.inl opf)), (co, Sum.inr (3, [Value.int (nI sh), Value.long xkeptCode, Value.long xkeptRange, Value.int xkeptAsked, Value.int xcache, Value.int xpending, Value.long xlow, Value.long xrange, Value.long (lN (wrS is ((RR - bb), (CD - bb), q)).2.1), Value.long xreadLow, Value.long (lN (wrS is ((RR - bb), (CD - bb), q)).1), Value.ref ri, Value.ref ro, Value.ref rw, Value.int (nI (wrS is ((RR - bb), (CD - bb), q)).2.2)])), (ri, Sum.inr (0, [Value.int (nI is.length), Value.ref ria])), (ria, Sum.inl (cI, rik, Sum.inl rif))] H := ⟨hP, hD⟩
      have hP := hPD.1
      have hD := hPD.2
      have hrb : ((RR - bb), (CD - bb), q) = rbS (RR / 2048 * pp) RR CD q := by rw [hb9, rbS_1 hlb]
      rw [hrb] at hP hD
      have hPD : my_PD (dC, dI) vwCl A [(oo, Sum.inr (7, [Value.int osg, Value.int osmq_69, Value.int ofc, Value.ref oca, Value.ref opa])), (oca, Sum.inl (cI, n, Sum.inl ocfq_69)), (opa, Sum.inl (cI, opl, Sum.inl opf)), (co, Sum.inr (3, [Value.int (nI sh), Value.long xkeptCode, Value.long xkeptRange, Value.int xkeptAsked, Value.int xcache, Value.int xpending, Value.long xlow, Value.long xrange, Value.long (lN (wrS is (rbS (RR / 2048 * pp) RR CD q)).2.1), Value.long xreadLow, Value.long (lN (wrS is (rbS (RR / 2048 * pp) RR CD q)).1), Value.ref ri, Value.ref ro, Value.ref rw, Value.int (nI (wrS is (rbS (RR / 2048 * pp) RR CD q)).2.2)])), (ri, Sum.inr (0, [Value.int (nI is.length), Value.ref ria])), (ria, Sum.inl (cI, rik, Sum.inl rif))] H := ⟨hP, hD⟩
      have hP := hPD.1
      have hD := hPD.2
      refine lv_iload hx hb d_Bits_nextBit_76 (lv_at hl 0 rfl) ?_
      exact my_iret (v := nI (rbt bb CD)) hx hb hr (rfl) hlocks hQ hK hS (Nat.le_refl _) (Nat.le_refl _) (osmq_69, ocfq_69) (⟨by rw [hb9], by rw [hb9]; exact hc_69⟩) (hP.sub [3, 4, 5, 0, 1, 2] rfl) (hD.sub [3, 4, 5, 0, 1, 2] (by decide +kernel) rfl) d_Bits_nextBit_78
    · exact absurd c_5 (by rw [hbt9]; decide)
  · rw [lg_cmp_ge] at c_4
    refine lv_iconst (v := 0) hx hb d_Bits_nextBit_24 (by decide) ?_
    refine lv_goto (tgt := 29) hx hb d_Bits_nextBit_25 (by decide) ?_
    have hlb : CD < bb := by rcases Nat.lt_or_ge CD bb with z | z; exact z; exact absurd ((L_le (by omega) (by omega)).mpr z) c_4
    have hbt9 : rbt bb CD = 0 := rbt_0 hlb
    refine W.eq (g2 := F0 m 29 ls [Value.int (nI (rbt bb CD))]) (by rw [hbt9]; rfl) ?_
    refine lv_istore (lv' := [(5, Value.int (nI (rbt bb CD))), (3, Value.long (lN bb)), (0, Value.ref co), (1, Value.ref oo), (2, Value.int (nI nd))]) hx hb d_Bits_nextBit_29 hl (by decide) rfl (fun ls hl => ?_)
    refine lv_iload hx hb d_Bits_nextBit_31 (lv_at hl 0 rfl) ?_
    refine lv_if_ne (tgt := 44) hx hb d_Bits_nextBit_33 (by decide) (fun c_8 => ?_) (fun c_8 => ?_)
    · exact absurd (by rw [hbt9]; rfl) c_8
    · refine lv_aload_n hx hb d_Bits_nextBit_36 rfl (lv_at hl 2 rfl) ?_
      refine lv_lload_n hx hb d_Bits_nextBit_37 rfl (lv_at hl 1 rfl) ?_
      refine va_put (D := (dC, dI)) (ci := 3) (v := .long (lN bb)) (ty := .long) (C := "RangeCoders$Bits") (T := T_Bits) (N := 15) hx hb hg in_Bits t_Bits o_Bits n_Bits hown hK hP hD hS 0 rfl rfl 10 (by decide) (hg _ k98) (fun x9 h9 => u_same (hg _ k99) x9 h9) rfl (o_Bits 10 (by decide)) rfl rfl (Nat.le_of_ble_eq_true rfl) d_Bits_nextBit_38 (fun H locs hP hD hS => ?_)
      have hPD : my_PD (dC, dI) vwCl A [(co, Sum.inr (3, [Value.int (nI sh), Value.long xkeptCode, Value.long xkeptRange, Value.int xkeptAsked, Value.int xcache, Value.int xpending, Value.long xlow, Value.long xrange, Value.long (lN CD), Value.long xreadLow, Value.long (lN bb), Value.ref ri, Value.ref ro, Value.ref rw, Value.int (nI q)])), (ri, Sum.inr (0, [Value.int (nI is.length), Value.ref ria])), (ria, Sum.inl (cI, rik, Sum.inl rif)), (oo, Sum.inr (7, [Value.int osg, Value.int osm, Value.int ofc, Value.ref oca, Value.ref opa])), (oca, Sum.inl (cI, n, Sum.inl ocf)), (opa, Sum.inl (cI, opl, Sum.inl opf))] H := ⟨hP, hD⟩
      have hP := hPD.1
      have hD := hPD.2
      refine lv_goto (tgt := 64) hx hb d_Bits_nextBit_41 (by decide) ?_
      refine lv_aload_n hx hb d_Bits_nextBit_64 rfl (lv_at hl 2 rfl) ?_
      refine lv_aload_n hx hb d_Bits_nextBit_65 rfl (lv_at hl 3 rfl) ?_
      refine lv_iload_n hx hb d_Bits_nextBit_66 rfl (lv_at hl 4 rfl) ?_
      refine lv_iload hx hb d_Bits_nextBit_67 (lv_at hl 0 rfl) ?_
      refine my_cv (wr := [(ri, Sum.inr (0, [Value.int (nI is.length), Value.ref ria])), (ria, Sum.inl (cI, rik, Sum.inl rif))]) (va_runV (As := [Value.ref oo, Value.int (nI nd), Value.int (nI (rbt bb CD))]) (rest := []) ⟨hx, hb, hml, hown, hts⟩ (f_Bits_adapt l dC dI cI cM cO H.size co xkeptCode xkeptRange xkeptAsked xcache xpending xlow xrange (lN CD) xreadLow (lN bb) ri ro rw (nI q) oo osg ofc oca opa n ocf opl opf osm nd pp (rbt bb CD) sh (by first | assumption | omega) (by first | assumption | omega) (by first | assumption | omega) (by first | assumption | omega) (by first | assumption | omega) (by first | assumption | omega) (by omega) (by first | assumption | omega) (hb2)) (cwV 3 hts (my_gV k450 k452 ks5 k8 k453) rfl rfl rfl cu_Bits_adapt_3 ⟨by rw [hR]; exact Nat.le_of_ble_eq_true rfl, by rw [hR]; exact Nat.le_of_ble_eq_true rfl⟩) (my_preV hK hN (hP.sub [0, 3, 4, 5] rfl) (hD.sub [0, 3, 4, 5] (by decide +kernel) rfl) 0 rfl rfl) rfl rfl hl.1 rfl (lv_room (Nat.le_of_ble_eq_true rfl)) d_Bits_nextBit_69 ⟨by rw [hR]; exact Nat.le_of_ble_eq_true rfl, by rw [hR]; exact Nat.le_of_ble_eq_true rfl⟩) hP hD hS hA [0, 3, 4, 5] [1, 2] rfl rfl (by decide +kernel) (by decide +kernel) (fun u9 H locs hw_69 hP hD hS => ?_)
      obtain ⟨osmq_69, ocfq_69⟩ := u9
      have hc_69 : ocfq_69 = upd ocf nd (nI (mvC sh (rbt bb CD) pp)) := hw_69
      have hPD : my_PD (dC, dI) vwCl A [(ri, Sum.inr (0, [Value.int (nI is.length), Value.ref ria])), (ria, Sum.inl (cI, rik, Sum.inl rif)), (co, Sum.inr (3, [Value.int (nI sh), Value.long xkeptCode, Value.long xkeptRange, Value.int xkeptAsked, Value.int xcache, Value.int xpending, Value.long xlow, Value.long xrange, Value.long (lN CD), Value.long xreadLow, Value.long (lN bb), Value.ref ri, Value.ref ro, Value.ref rw, Value.int (nI q)])), (oo, Sum.inr (7, [Value.int osg, Value.int osmq_69, Value.int ofc, Value.ref oca, Value.ref opa])), (oca, Sum.inl (cI, n, Sum.inl ocfq_69)), (opa, Sum.inl (cI, opl, Sum.inl opf))] H := ⟨hP, hD⟩
      have hP := hPD.1
      have hD := hPD.2
      refine lv_aload_n hx hb d_Bits_nextBit_72 rfl (lv_at hl 2 rfl) ?_
      refine my_cv (wr := [(oo, Sum.inr (7, [Value.int osg, Value.int osmq_69, Value.int ofc, Value.ref oca, Value.ref opa])), (oca, Sum.inl (cI, n, Sum.inl ocfq_69)), (opa, Sum.inl (cI, opl, Sum.inl opf))]) (va_runU (As := []) (rest := []) ⟨hx, hb, hml, hown, hts⟩ (f_Bits_widenReading l dC dI cI cM cO H.size co (nI sh) xkeptCode xkeptRange xkeptAsked xcache xpending xlow xrange xreadLow ri ro rw ria rik rif is bb CD q (hri) (hGri) (hLri) (hoct) (by omega) (by omega) (by omega) (hq)) (va_cwU 0 hts (my_gU k789 k790 k792 k793 k5 k794) rfl rfl rfl rfl (by decide +kernel) ⟨by rw [hR]; exact Nat.le_of_ble_eq_true rfl, by rw [hR]; exact Nat.le_of_ble_eq_true rfl⟩) (my_preV hK hN (hP.sub [2, 0, 1] rfl) (hD.sub [2, 0, 1] (by decide +kernel) rfl) 0 rfl rfl) rfl rfl hl.1 rfl (lv_room (Nat.le_of_ble_eq_true rfl)) d_Bits_nextBit_73 ⟨by rw [hR]; exact Nat.le_of_ble_eq_true rfl, by rw [hR]; exact Nat.le_of_ble_eq_true rfl⟩) hP hD hS hA [2, 0, 1] [3, 4, 5] rfl rfl (by decide +kernel) (by decide +kernel) (fun u9 H locs hw_73 hP hD hS => ?_)
      have hPD : my_PD (dC, dI) vwCl A [(oo, Sum.inr (7, [Value.int osg, Value.int osmq_69, Value.int ofc, Value.ref oca, Value.ref opa])), (oca, Sum.inl (cI, n, Sum.inl ocfq_69)), (opa, Sum.inl (cI, opl, Sum.inl opf)), (co, Sum.inr (3, [Value.int (nI sh), Value.long xkeptCode, Value.long xkeptRange, Value.int xkeptAsked, Value.int xcache, Value.int xpending, Value.long xlow, Value.long xrange, Value.long (lN (wrS is (bb, CD, q)).2.1), Value.long xreadLow, Value.long (lN (wrS is (bb, CD, q)).1), Value.ref ri, Value.ref ro, Value.ref rw, Value.int (nI (wrS is (bb, CD, q)).2.2)])), (ri, Sum.inr (0, [Value.int (nI is.length), Value.ref ria])), (ria, Sum.inl (cI, rik, Sum.inl rif))] H := ⟨hP, hD⟩
      have hP := hPD.1
      have hD := hPD.2
      have hrb : (bb, CD, q) = rbS (RR / 2048 * pp) RR CD q := by rw [hb9, rbS_0 hlb]
      rw [hrb] at hP hD
      have hPD : my_PD (dC, dI) vwCl A [(oo, Sum.inr (7, [Value.int osg, Value.int osmq_69, Value.int ofc, Value.ref oca, Value.ref opa])), (oca, Sum.inl (cI, n, Sum.inl ocfq_69)), (opa, Sum.inl (cI, opl, Sum.inl opf)), (co, Sum.inr (3, [Value.int (nI sh), Value.long xkeptCode, Value.long xkeptRange, Value.int xkeptAsked, Value.int xcache, Value.int xpending, Value.long xlow, Value.long xrange, Value.long (lN (wrS is (rbS (RR / 2048 * pp) RR CD q)).2.1), Value.long xreadLow, Value.long (lN (wrS is (rbS (RR / 2048 * pp) RR CD q)).1), Value.ref ri, Value.ref ro, Value.ref rw, Value.int (nI (wrS is (rbS (RR / 2048 * pp) RR CD q)).2.2)])), (ri, Sum.inr (0, [Value.int (nI is.length), Value.ref ria])), (ria, Sum.inl (cI, rik, Sum.inl rif))] H := ⟨hP, hD⟩
      have hP := hPD.1
      have hD := hPD.2
      refine lv_iload hx hb d_Bits_nextBit_76 (lv_at hl 0 rfl) ?_
      exact my_iret (v := nI (rbt bb CD)) hx hb hr (rfl) hlocks hQ hK hS (Nat.le_refl _) (Nat.le_refl _) (osmq_69, ocfq_69) (⟨by rw [hb9], by rw [hb9]; exact hc_69⟩) (hP.sub [3, 4, 5, 0, 1, 2] rfl) (hD.sub [3, 4, 5, 0, 1, 2] (by decide +kernel) rfl) d_Bits_nextBit_78
set_option maxHeartbeats 2000000 in
set_option maxRecDepth 100000 in
theorem f_Bits_nextSign (l : Launch) (dC : Nat → ClassId) (dI : Nat → Nat → Nat) (cI cM cO : ClassId) (sz : Nat) (co : Nat) (xkeptCode : Int64) (xkeptRange : Int64) (xkeptAsked : Int32) (xcache : Int32) (xpending : Int32) (xlow : Int64) (xrange : Int64) (xreadLow : Int64) (ri : Nat) (ro : Nat) (rw : Nat) (ria : Nat) (rik : Nat) (rif : Nat → Int32) (is : List Nat) (RR : Nat) (CD : Nat) (q : Nat) (oo : Nat) (ofc : Int32) (oca : Nat) (opa : Nat) (n : Nat) (ocf : Nat → Int32) (opl : Nat) (opf : Nat → Int32) (osm : Int32) (sg : Nat) (C : Nat → Nat) (sh : Nat) (lv : Nat) (hri : rOk (nI is.length) rik) (hGri : gIs rif is) (hLri : is.length ≤ 6000) (hoct : oct is) (hn : n ≤ 64) (hpl : opl ≤ 512) (hs9 : 2 ≤ sg) (hs8 : sg ≤ 64) (hlv : lv = lev sg) (hnl : n = 2 ^ lv) (hofc : ofc = 1) (hf : tbI ocf n C) (hC : ∀ k, k < 64 → 1 ≤ C k ∧ C k ≤ 2047) (hs1 : 1 ≤ sh) (hs2 : sh ≤ 10) (hI : rInv (RR, CD, q)) (hq : q < 800000000) : MetI l y_Bits_nextSign (Cond.code y_Bits_nextSign prog_2_method_7_code 5 (some .int) :: gw) ({ frames := 5, cells := 0, slots := 0, locals := 109 } : Room) (dC, dI) vwCl (kT cI cM cO) [Value.ref co, Value.ref oo] [(co, Sum.inr (3, [Value.int (nI sh), Value.long xkeptCode, Value.long xkeptRange, Value.int xkeptAsked, Value.int xcache, Value.int xpending, Value.long xlow, Value.long xrange, Value.long (lN CD), Value.long xreadLow, Value.long (lN RR), Value.ref ri, Value.ref ro, Value.ref rw, Value.int (nI q)])), (ri, Sum.inr (0, [Value.int (nI is.length), Value.ref ria])), (ria, Sum.inl (cI, rik, Sum.inl rif)), (oo, Sum.inr (7, [Value.int (nI sg), Value.int osm, Value.int ofc, Value.ref oca, Value.ref opa])), (oca, Sum.inl (cI, n, Sum.inl ocf)), (opa, Sum.inl (cI, opl, Sum.inl opf))] sz (fun (r : Int32) (u : Int64 × Int64 × Int32 × Int32 × (Nat → Int32)) => r = oI (gnS is sh sg (RR, CD, q) C).1 ∧ (¬ (gnS is sh sg (RR, CD, q) C).1 = none → tbI u.2.2.2.2 n (gnS is sh sg (RR, CD, q) C).2.2)) (fun (u : Int64 × Int64 × Int32 × Int32 × (Nat → Int32)) => [(co, Sum.inr (3, [Value.int (nI sh), Value.long u.1, Value.long u.2.1, Value.int u.2.2.1, Value.int xcache, Value.int xpending, Value.long xlow, Value.long xrange, Value.long (lN (cbR (gnS is sh sg (RR, CD, q) C).1 (RR, CD, q) (gnS is sh sg (RR, CD, q) C).2.1).2.1), Value.long xreadLow, Value.long (lN (cbR (gnS is sh sg (RR, CD, q) C).1 (RR, CD, q) (gnS is sh sg (RR, CD, q) C).2.1).1), Value.ref ri, Value.ref ro, Value.ref rw, Value.int (nI (cbR (gnS is sh sg (RR, CD, q) C).1 (RR, CD, q) (gnS is sh sg (RR, CD, q) C).2.1).2.2)])), (ri, Sum.inr (0, [Value.int (nI is.length), Value.ref ria])), (ria, Sum.inl (cI, rik, Sum.inl rif)), (oo, Sum.inr (7, [Value.int (nI sg), Value.int u.2.2.2.1, Value.int ofc, Value.ref oca, Value.ref opa])), (oca, Sum.inl (cI, n, Sum.inl u.2.2.2.2)), (opa, Sum.inl (cI, opl, Sum.inl opf))]) 0 0 := by
  refine my_ofI (cc := prog_2_method_7_code) (n := 5) (ret := (some .int)) (by decide) rfl (Nat.le_of_ble_eq_true rfl) ?_
  intro p e s m args below meth c R Q A ls H locs hx hb hr hts hown hlocks hml hnm hR hQ hA hl hP hK hN hD hS
  have hg : ∀ w ∈ gw, w.before args s = true := fun w h => hts w (List.mem_cons_of_mem _ h)
  have hown : s.vm.findClass "RangeCoders$Bits" = some m.cls := hown
  have hl : lv_has ls 5 [(0, Value.ref co), (1, Value.ref oo)] := hl
  have hlti := rOk_lt hri
  have hl6 : lev sg ≤ 6 := lev_6 sg
  obtain ⟨hI1, hI2, hI3⟩ := id hI
  simp only at hI1 hI2 hI3
  refine lv_aload_n hx hb d_Bits_nextSign_0 rfl (lv_at hl 0 rfl) ?_
  refine va_get (D := (dC, dI)) (ci := 3) (v := .long (lN CD)) (C := "RangeCoders$Bits") (T := T_Bits) (N := 15) hx hb hg in_Bits hown hK hP 0 rfl rfl 8 (by decide) (hg _ k88) (fun x9 h9 => u_same (hg _ k89) x9 h9) rfl d_Bits_nextSign_1 ?_
  refine lv_aload_n hx hb d_Bits_nextSign_4 rfl (lv_at hl 0 rfl) ?_
  refine va_get (D := (dC, dI)) (ci := 3) (v := .long (lN RR)) (C := "RangeCoders$Bits") (T := T_Bits) (N := 15) hx hb hg in_Bits hown hK hP 0 rfl rfl 10 (by decide) (hg _ k98) (fun x9 h9 => u_same (hg _ k99) x9 h9) rfl d_Bits_nextSign_5 ?_
  refine W.lcmp hx hb d_Bits_nextSign_8 ?_
  refine lv_if_lt (tgt := 14) hx hb d_Bits_nextSign_9 (by decide) (fun c_1 => ?_) (fun c_1 => ?_)
  · rw [lg_cmp_lt] at c_1
    have hlt0 : CD < RR := (L_lt (by omega) (by omega)).mp c_1
    refine lv_aload_n hx hb d_Bits_nextSign_14 rfl (lv_at hl 0 rfl) ?_
    refine my_cv (wr := [(ri, Sum.inr (0, [Value.int (nI is.length), Value.ref ria])), (ria, Sum.inl (cI, rik, Sum.inl rif)), (oo, Sum.inr (7, [Value.int (nI sg), Value.int osm, Value.int ofc, Value.ref oca, Value.ref opa])), (oca, Sum.inl (cI, n, Sum.inl ocf)), (opa, Sum.inl (cI, opl, Sum.inl opf))]) (va_runV (As := []) (rest := []) ⟨hx, hb, hml, hown, hts⟩ (f_Bits_keepReading l dC dI cI cM cO H.size co (nI sh) xkeptCode xkeptRange xkeptAsked xcache xpending xlow xrange (lN CD) xreadLow (lN RR) ri ro rw (nI q)) (cwV 0 hts (my_gV k781 k783 ks13 k8 k784) rfl rfl rfl cu_Bits_keepReading_0 ⟨by rw [hR]; exact Nat.le_of_ble_eq_true rfl, by rw [hR]; exact Nat.le_of_ble_eq_true rfl⟩) (my_preV hK hN (hP.sub [0] rfl) (hD.sub [0] (by decide +kernel) rfl) 0 rfl rfl) rfl rfl hl.1 rfl (lv_room (Nat.le_of_ble_eq_true rfl)) d_Bits_nextSign_15 ⟨by rw [hR]; exact Nat.le_of_ble_eq_true rfl, by rw [hR]; exact Nat.le_of_ble_eq_true rfl⟩) hP hD hS hA [0] [1, 2, 3, 4, 5] rfl rfl (by decide +kernel) (by decide +kernel) (fun u9 H locs hw_15 hP hD hS => ?_)
    have hPD : my_PD (dC, dI) vwCl A [(ri, Sum.inr (0, [Value.int (nI is.length), Value.ref ria])), (ria, Sum.inl (cI, rik, Sum.inl rif)), (oo, Sum.inr (7, [Value.int (nI sg), Value.int osm, Value.int ofc, Value.ref oca, Value.ref opa])), (oca, Sum.inl (cI, n, Sum.inl ocf)), (opa, Sum.inl (cI, opl, Sum.inl opf)), (co, Sum.inr (3, [Value.int (nI sh), Value.long (lN CD), Value.long (lN RR), Value.int (nI q), Value.int xcache, Value.int xpending, Value.long xlow, Value.long xrange, Value.long (lN CD), Value.long xreadLow, Value.long (lN RR), Value.ref ri, Value.ref ro, Value.ref rw, Value.int (nI q)]))] H := ⟨hP, hD⟩
    have hP := hPD.1
    have hD := hPD.2
    refine lv_aload_n hx hb d_Bits_nextSign_18 rfl (lv_at hl 1 rfl) ?_
    refine va_get (D := (dC, dI)) (ci := 7) (v := .int (nI sg)) (C := "RangeCoders$Odds") (T := T_Odds) (N := 5) hx hb hg in_Odds hown hK hP 2 rfl rfl 0 (by decide) (hg _ k304) (fun _ h9 => h9) rfl d_Bits_nextSign_19 ?_
    refine my_ci (wr := [(ri, Sum.inr (0, [Value.int (nI is.length), Value.ref ria])), (ria, Sum.inl (cI, rik, Sum.inl rif)), (oo, Sum.inr (7, [Value.int (nI sg), Value.int osm, Value.int ofc, Value.ref oca, Value.ref opa])), (oca, Sum.inl (cI, n, Sum.inl ocf)), (opa, Sum.inl (cI, opl, Sum.inl opf)), (co, Sum.inr (3, [Value.int (nI sh), Value.long (lN CD), Value.long (lN RR), Value.int (nI q), Value.int xcache, Value.int xpending, Value.long xlow, Value.long xrange, Value.long (lN CD), Value.long xreadLow, Value.long (lN RR), Value.ref ri, Value.ref ro, Value.ref rw, Value.int (nI q)]))]) (va_runS (As := [Value.int (nI sg)]) (rest := []) ⟨hx, hb, hml, hown, hts⟩ (f_Bits_levelsOf l dC dI cI cM cO H.size sg (hs9) (hs8)) (cwS 1 hts (my_gS k296 k297 k8 k298) rfl rfl rfl (by decide +kernel) ⟨by rw [hR]; exact Nat.le_of_ble_eq_true rfl, by rw [hR]; exact Nat.le_of_ble_eq_true rfl⟩) (my_pre hK hN (hP.sub [] rfl) (hD.sub [] (by decide +kernel) rfl)) rfl rfl hl.1 rfl (lv_room (Nat.le_of_ble_eq_true rfl)) d_Bits_nextSign_22 ⟨by rw [hR]; exact Nat.le_of_ble_eq_true rfl, by rw [hR]; exact Nat.le_of_ble_eq_true rfl⟩) hP hD hS hA [] [0, 1, 2, 3, 4, 5] rfl rfl (by decide +kernel) (by decide +kernel) (fun r_22 u9 H locs hw_22 hP hD hS => ?_)
    have hr_22 : r_22 = nI (lev sg) := hw_22
    have hPD : my_PD (dC, dI) vwCl A [(ri, Sum.inr (0, [Value.int (nI is.length), Value.ref ria])), (ria, Sum.inl (cI, rik, Sum.inl rif)), (oo, Sum.inr (7, [Value.int (nI sg), Value.int osm, Value.int ofc, Value.ref oca, Value.ref opa])), (oca, Sum.inl (cI, n, Sum.inl ocf)), (opa, Sum.inl (cI, opl, Sum.inl opf)), (co, Sum.inr (3, [Value.int (nI sh), Value.long (lN CD), Value.long (lN RR), Value.int (nI q), Value.int xcache, Value.int xpending, Value.long xlow, Value.long xrange, Value.long (lN CD), Value.long xreadLow, Value.long (lN RR), Value.ref ri, Value.ref ro, Value.ref rw, Value.int (nI q)]))] H := ⟨hP, hD⟩
    have hP := hPD.1
    have hD := hPD.2
    have z9 : r_22 = nI lv := by rw [hr_22, hlv]
    subst z9
    refine lv_istore_n (lv' := [(2, Value.int (nI lv)), (0, Value.ref co), (1, Value.ref oo)]) hx hb d_Bits_nextSign_25 rfl hl (by decide) rfl (fun ls hl => ?_)
    refine lv_iconst (v := 1) hx hb d_Bits_nextSign_26 (by decide) ?_
    refine lv_istore_n (lv' := [(3, Value.int 1), (2, Value.int (nI lv)), (0, Value.ref co), (1, Value.ref oo)]) hx hb d_Bits_nextSign_27 rfl hl (by decide) rfl (fun ls hl => ?_)
    refine lv_iconst (v := 0) hx hb d_Bits_nextSign_28 (by decide) ?_
    refine lv_istore (lv' := [(4, Value.int 0), (3, Value.int 1), (2, Value.int (nI lv)), (0, Value.ref co), (1, Value.ref oo)]) hx hb d_Bits_nextSign_29 hl (by decide) rfl (fun ls hl => ?_)
    have J_31 : ∀ (n9_31 : Nat) (j : Nat) (nd : Nat) (e9 : RS) (D : Nat → Nat) (fK : Nat → Int32) (sm9 : Int32) (hn9_31 : lv - j = n9_31) (hj : j ≤ lv) (hE9 : gnN is sh lv 1 (RR, CD, q) C = gnN is sh (lv - j) nd e9 D) (hI9 : rInv e9) (hq9 : e9.2.2 ≤ q + 3 * j) (hnd : 2 ^ j ≤ nd ∧ nd < 2 ^ (j + 1)) (hfK : tbI fK n D) (hD9 : ∀ k, k < 64 → 1 ≤ D k ∧ D k ≤ 2047) (H : Heap) (locs : List Loc) (ls : Array Slot), va_P (dC, dI) vwCl [(ri, Sum.inr (0, [Value.int (nI is.length), Value.ref ria])), (ria, Sum.inl (cI, rik, Sum.inl rif)), (oo, Sum.inr (7, [Value.int (nI sg), Value.int sm9, Value.int ofc, Value.ref oca, Value.ref opa])), (oca, Sum.inl (cI, n, Sum.inl fK)), (opa, Sum.inl (cI, opl, Sum.inl opf)), (co, Sum.inr (3, [Value.int (nI sh), Value.long (lN CD), Value.long (lN RR), Value.int (nI q), Value.int xcache, Value.int xpending, Value.long xlow, Value.long xrange, Value.long (lN e9.2.1), Value.long xreadLow, Value.long (lN e9.1), Value.ref ri, Value.ref ro, Value.ref rw, Value.int (nI e9.2.2)]))] H → va_D A [(ri, Sum.inr (0, [Value.int (nI is.length), Value.ref ria])), (ria, Sum.inl (cI, rik, Sum.inl rif)), (oo, Sum.inr (7, [Value.int (nI sg), Value.int sm9, Value.int ofc, Value.ref oca, Value.ref opa])), (oca, Sum.inl (cI, n, Sum.inl fK)), (opa, Sum.inl (cI, opl, Sum.inl opf)), (co, Sum.inr (3, [Value.int (nI sh), Value.long (lN CD), Value.long (lN RR), Value.int (nI q), Value.int xcache, Value.int xpending, Value.long xlow, Value.long xrange, Value.long (lN e9.2.1), Value.long xreadLow, Value.long (lN e9.1), Value.ref ri, Value.ref ro, Value.ref rw, Value.int (nI e9.2.2)]))] → va_S A s.heap H locs → lv_has ls 5 [(4, Value.int (nI j)), (3, Value.int (nI nd)), (2, Value.int (nI lv)), (0, Value.ref co), (1, Value.ref oo)] → W p l e R s m args below meth c H locs 0 0 Q (F0 m 31 ls []) := by
      intro n9_31
      induction n9_31 using Nat.strongRecOn with
      | ind n9_31 ih9_31 =>
        intro j nd e9 D fK sm9 hn9_31 hj hE9 hI9 hq9 hnd hfK hD9 H locs ls hP hD hS hl
        refine lv_iload hx hb d_Bits_nextSign_31 (lv_at hl 0 rfl) ?_
        refine lv_iload_n hx hb d_Bits_nextSign_33 rfl (lv_at hl 2 rfl) ?_
        refine lv_icmp_ge (tgt := 54) hx hb d_Bits_nextSign_34 (by decide) (fun c_2 => ?_) (fun c_2 => ?_)
        · have hj3 : j = lv := by have := nI_ge' (by omega) (by omega) c_2; omega
          rw [hj3] at hnd
          have hnlv : 2 ^ lv ≤ 64 := by rw [← hnl]; exact hn
          have hn2l : 2 ^ (lv + 1) = 2 * 2 ^ lv := by rw [Nat.pow_succ, Nat.mul_comm]
          refine lv_iload_n hx hb d_Bits_nextSign_54 rfl (lv_at hl 1 rfl) ?_
          refine lv_iconst (v := 1) hx hb d_Bits_nextSign_55 (by decide) ?_
          refine lv_iload_n hx hb d_Bits_nextSign_56 rfl (lv_at hl 2 rfl) ?_
          refine lv_ishl hx hb d_Bits_nextSign_57 ?_
          refine lv_topi (fun v_3 ev_3 => ?_)
          refine lv_isub hx hb d_Bits_nextSign_58 ?_
          refine lv_topi (fun v_4 ev_4 => ?_)
          have z9 : v_4 = nI (nd - 2 ^ lv) := by subst_vars; rw [shl1 _ (by omega)]; exact pk_sub hnd.1
          subst z9
          refine lv_istore (lv' := [(4, Value.int (nI (nd - 2 ^ lv))), (3, Value.int (nI nd)), (2, Value.int (nI lv)), (0, Value.ref co), (1, Value.ref oo)]) hx hb d_Bits_nextSign_59 hl (by decide) rfl (fun ls hl => ?_)
          refine lv_iload hx hb d_Bits_nextSign_61 (lv_at hl 0 rfl) ?_
          refine lv_aload_n hx hb d_Bits_nextSign_63 rfl (lv_at hl 4 rfl) ?_
          refine va_get (D := (dC, dI)) (ci := 7) (v := .int (nI sg)) (C := "RangeCoders$Odds") (T := T_Odds) (N := 5) hx hb hg in_Odds hown hK hP 2 rfl rfl 0 (by decide) (hg _ k304) (fun _ h9 => h9) rfl d_Bits_nextSign_64 ?_
          refine lv_icmp_ge (tgt := 75) hx hb d_Bits_nextSign_67 (by decide) (fun c_5 => ?_) (fun c_5 => ?_)
          · have hin9 : ¬ nd - 2 ^ lv < sg := by have z := nI_ge' (by omega) (by omega) c_5; omega
            refine lv_aload_n hx hb d_Bits_nextSign_75 rfl (lv_at hl 3 rfl) ?_
            refine my_ci (wr := [(ri, Sum.inr (0, [Value.int (nI is.length), Value.ref ria])), (ria, Sum.inl (cI, rik, Sum.inl rif)), (oo, Sum.inr (7, [Value.int (nI sg), Value.int sm9, Value.int ofc, Value.ref oca, Value.ref opa])), (oca, Sum.inl (cI, n, Sum.inl fK)), (opa, Sum.inl (cI, opl, Sum.inl opf))]) (va_runV (As := []) (rest := []) ⟨hx, hb, hml, hown, hts⟩ (f_Bits_undone l dC dI cI cM cO H.size co (nI sh) (lN CD) (lN RR) (nI q) xcache xpending xlow xrange (lN e9.2.1) xreadLow (lN e9.1) ri ro rw (nI e9.2.2)) (cwV 0 hts (my_gV k800 k802 ks15 k8 k803) rfl rfl rfl cu_Bits_undone_0 ⟨by rw [hR]; exact Nat.le_of_ble_eq_true rfl, by rw [hR]; exact Nat.le_of_ble_eq_true rfl⟩) (my_preV hK hN (hP.sub [5] rfl) (hD.sub [5] (by decide +kernel) rfl) 0 rfl rfl) rfl rfl hl.1 rfl (lv_room (Nat.le_of_ble_eq_true rfl)) d_Bits_nextSign_76 ⟨by rw [hR]; exact Nat.le_of_ble_eq_true rfl, by rw [hR]; exact Nat.le_of_ble_eq_true rfl⟩) hP hD hS hA [5] [0, 1, 2, 3, 4] rfl rfl (by decide +kernel) (by decide +kernel) (fun r_76 u9 H locs hw_76 hP hD hS => ?_)
            have hr_76 : r_76 = -1 := hw_76
            have hPD : my_PD (dC, dI) vwCl A [(ri, Sum.inr (0, [Value.int (nI is.length), Value.ref ria])), (ria, Sum.inl (cI, rik, Sum.inl rif)), (oo, Sum.inr (7, [Value.int (nI sg), Value.int sm9, Value.int ofc, Value.ref oca, Value.ref opa])), (oca, Sum.inl (cI, n, Sum.inl fK)), (opa, Sum.inl (cI, opl, Sum.inl opf)), (co, Sum.inr (3, [Value.int (nI sh), Value.long (lN CD), Value.long (lN RR), Value.int (nI q), Value.int xcache, Value.int xpending, Value.long xlow, Value.long xrange, Value.long (lN CD), Value.long xreadLow, Value.long (lN RR), Value.ref ri, Value.ref ro, Value.ref rw, Value.int (nI q)]))] H := ⟨hP, hD⟩
            have hP := hPD.1
            have hD := hPD.2
            have hg9 : gnN is sh lv 1 (RR, CD, q) C = (nd, e9, D) := by rw [hE9, show lv - j = 0 by omega]; rfl
            have hgs : gnS is sh sg (RR, CD, q) C = (none, e9, D) := by
              unfold gnS
              rw [← hlv, if_pos (show CD < RR from hlt0), hg9]
              rw [if_neg hin9]
            have hcb : cbR (gnS is sh sg (RR, CD, q) C).1 (RR, CD, q) (gnS is sh sg (RR, CD, q) C).2.1 = (RR, CD, q) := by rw [hgs]; rfl
            have hsu : ((lN RR) : Int64) = lN (cbR (gnS is sh sg (RR, CD, q) C).1 (RR, CD, q) (gnS is sh sg (RR, CD, q) C).2.1).1 := by rw [hcb]
            have hP := Eq.mp (congrArg (fun (z9 : Int64) => va_P (dC, dI) vwCl [(ri, Sum.inr (0, [Value.int (nI is.length), Value.ref ria])), (ria, Sum.inl (cI, rik, Sum.inl rif)), (oo, Sum.inr (7, [Value.int (nI sg), Value.int sm9, Value.int ofc, Value.ref oca, Value.ref opa])), (oca, Sum.inl (cI, n, Sum.inl fK)), (opa, Sum.inl (cI, opl, Sum.inl opf)), (co, Sum.inr (3, [Value.int (nI sh), Value.long (lN CD), Value.long (lN RR), Value.int (nI q), Value.int xcache, Value.int xpending, Value.long xlow, Value.long xrange, Value.long (lN CD), Value.long xreadLow, Value.long z9, Value.ref ri, Value.ref ro, Value.ref rw, Value.int (nI q)]))] H) hsu) hP
            have hD := Eq.mp (congrArg (fun (z9 : Int64) => va_D A [(ri, Sum.inr (0, [Value.int (nI is.length), Value.ref ria])), (ria, Sum.inl (cI, rik, Sum.inl rif)), (oo, Sum.inr (7, [Value.int (nI sg), Value.int sm9, Value.int ofc, Value.ref oca, Value.ref opa])), (oca, Sum.inl (cI, n, Sum.inl fK)), (opa, Sum.inl (cI, opl, Sum.inl opf)), (co, Sum.inr (3, [Value.int (nI sh), Value.long (lN CD), Value.long (lN RR), Value.int (nI q), Value.int xcache, Value.int xpending, Value.long xlow, Value.long xrange, Value.long (lN CD), Value.long xreadLow, Value.long z9, Value.ref ri, Value.ref ro, Value.ref rw, Value.int (nI q)]))]) hsu) hD
            have hPD : my_PD (dC, dI) vwCl A [(ri, Sum.inr (0, [Value.int (nI is.length), Value.ref ria])), (ria, Sum.inl (cI, rik, Sum.inl rif)), (oo, Sum.inr (7, [Value.int (nI sg), Value.int sm9, Value.int ofc, Value.ref oca, Value.ref opa])), (oca, Sum.inl (cI, n, Sum.inl fK)), (opa, Sum.inl (cI, opl, Sum.inl opf)), (co, Sum.inr (3, [Value.int (nI sh), Value.long (lN CD), Value.long (lN RR), Value.int (nI q), Value.int xcache, Value.int xpending, Value.long xlow, Value.long xrange, Value.long (lN CD), Value.long xreadLow, Value.long (lN (cbR (gnS is sh sg (RR, CD, q) C).1 (RR, CD, q) (gnS is sh sg (RR, CD, q) C).2.1).1), Value.ref ri, Value.ref ro, Value.ref rw, Value.int (nI q)]))] H := ⟨hP, hD⟩
            have hP := hPD.1
            have hD := hPD.2
            have hsu : ((lN CD) : Int64) = lN (cbR (gnS is sh sg (RR, CD, q) C).1 (RR, CD, q) (gnS is sh sg (RR, CD, q) C).2.1).2.1 := by rw [hcb]
            have hP := Eq.mp (congrArg (fun (z9 : Int64) => va_P (dC, dI) vwCl [(ri, Sum.inr (0, [Value.int (nI is.length), Value.ref ria])), (ria, Sum.inl (cI, rik, Sum.inl rif)), (oo, Sum.inr (7, [Value.int (nI sg), Value.int sm9, Value.int ofc, Value.ref oca, Value.ref opa])), (oca, Sum.inl (cI, n, Sum.inl fK)), (opa, Sum.inl (cI, opl, Sum.inl opf)), (co, Sum.inr (3, [Value.int (nI sh), Value.long (lN CD), Value.long (lN RR), Value.int (nI q), Value.int xcache, Value.int xpending, Value.long xlow, Value.long xrange, Value.long z9, Value.long xreadLow, Value.long (lN (cbR (gnS is sh sg (RR, CD, q) C).1 (RR, CD, q) (gnS is sh sg (RR, CD, q) C).2.1).1), Value.ref ri, Value.ref ro, Value.ref rw, Value.int (nI q)]))] H) hsu) hP
            have hD := Eq.mp (congrArg (fun (z9 : Int64) => va_D A [(ri, Sum.inr (0, [Value.int (nI is.length), Value.ref ria])), (ria, Sum.inl (cI, rik, Sum.inl rif)), (oo, Sum.inr (7, [Value.int (nI sg), Value.int sm9, Value.int ofc, Value.ref oca, Value.ref opa])), (oca, Sum.inl (cI, n, Sum.inl fK)), (opa, Sum.inl (cI, opl, Sum.inl opf)), (co, Sum.inr (3, [Value.int (nI sh), Value.long (lN CD), Value.long (lN RR), Value.int (nI q), Value.int xcache, Value.int xpending, Value.long xlow, Value.long xrange, Value.long z9, Value.long xreadLow, Value.long (lN (cbR (gnS is sh sg (RR, CD, q) C).1 (RR, CD, q) (gnS is sh sg (RR, CD, q) C).2.1).1), Value.ref ri, Value.ref ro, Value.ref rw, Value.int (nI q)]))]) hsu) hD
            have hPD : my_PD (dC, dI) vwCl A [(ri, Sum.inr (0, [Value.int (nI is.length), Value.ref ria])), (ria, Sum.inl (cI, rik, Sum.inl rif)), (oo, Sum.inr (7, [Value.int (nI sg), Value.int sm9, Value.int ofc, Value.ref oca, Value.ref opa])), (oca, Sum.inl (cI, n, Sum.inl fK)), (opa, Sum.inl (cI, opl, Sum.inl opf)), (co, Sum.inr (3, [Value.int (nI sh), Value.long (lN CD), Value.long (lN RR), Value.int (nI q), Value.int xcache, Value.int xpending, Value.long xlow, Value.long xrange, Value.long (lN (cbR (gnS is sh sg (RR, CD, q) C).1 (RR, CD, q) (gnS is sh sg (RR, CD, q) C).2.1).2.1), Value.long xreadLow, Value.long (lN (cbR (gnS is sh sg (RR, CD, q) C).1 (RR, CD, q) (gnS is sh sg (RR, CD, q) C).2.1).1), Value.ref ri, Value.ref ro, Value.ref rw, Value.int (nI q)]))] H := ⟨hP, hD⟩
            have hP := hPD.1
            have hD := hPD.2
            have hsu : ((nI q) : Int32) = nI (cbR (gnS is sh sg (RR, CD, q) C).1 (RR, CD, q) (gnS is sh sg (RR, CD, q) C).2.1).2.2 := by rw [hcb]
            have hP := Eq.mp (congrArg (fun (z9 : Int32) => va_P (dC, dI) vwCl [(ri, Sum.inr (0, [Value.int (nI is.length), Value.ref ria])), (ria, Sum.inl (cI, rik, Sum.inl rif)), (oo, Sum.inr (7, [Value.int (nI sg), Value.int sm9, Value.int ofc, Value.ref oca, Value.ref opa])), (oca, Sum.inl (cI, n, Sum.inl fK)), (opa, Sum.inl (cI, opl, Sum.inl opf)), (co, Sum.inr (3, [Value.int (nI sh), Value.long (lN CD), Value.long (lN RR), Value.int (nI q), Value.int xcache, Value.int xpending, Value.long xlow, Value.long xrange, Value.long (lN (cbR (gnS is sh sg (RR, CD, q) C).1 (RR, CD, q) (gnS is sh sg (RR, CD, q) C).2.1).2.1), Value.long xreadLow, Value.long (lN (cbR (gnS is sh sg (RR, CD, q) C).1 (RR, CD, q) (gnS is sh sg (RR, CD, q) C).2.1).1), Value.ref ri, Value.ref ro, Value.ref rw, Value.int z9]))] H) hsu) hP
            have hD := Eq.mp (congrArg (fun (z9 : Int32) => va_D A [(ri, Sum.inr (0, [Value.int (nI is.length), Value.ref ria])), (ria, Sum.inl (cI, rik, Sum.inl rif)), (oo, Sum.inr (7, [Value.int (nI sg), Value.int sm9, Value.int ofc, Value.ref oca, Value.ref opa])), (oca, Sum.inl (cI, n, Sum.inl fK)), (opa, Sum.inl (cI, opl, Sum.inl opf)), (co, Sum.inr (3, [Value.int (nI sh), Value.long (lN CD), Value.long (lN RR), Value.int (nI q), Value.int xcache, Value.int xpending, Value.long xlow, Value.long xrange, Value.long (lN (cbR (gnS is sh sg (RR, CD, q) C).1 (RR, CD, q) (gnS is sh sg (RR, CD, q) C).2.1).2.1), Value.long xreadLow, Value.long (lN (cbR (gnS is sh sg (RR, CD, q) C).1 (RR, CD, q) (gnS is sh sg (RR, CD, q) C).2.1).1), Value.ref ri, Value.ref ro, Value.ref rw, Value.int z9]))]) hsu) hD
            have hPD : my_PD (dC, dI) vwCl A [(ri, Sum.inr (0, [Value.int (nI is.length), Value.ref ria])), (ria, Sum.inl (cI, rik, Sum.inl rif)), (oo, Sum.inr (7, [Value.int (nI sg), Value.int sm9, Value.int ofc, Value.ref oca, Value.ref opa])), (oca, Sum.inl (cI, n, Sum.inl fK)), (opa, Sum.inl (cI, opl, Sum.inl opf)), (co, Sum.inr (3, [Value.int (nI sh), Value.long (lN CD), Value.long (lN RR), Value.int (nI q), Value.int xcache, Value.int xpending, Value.long xlow, Value.long xrange, Value.long (lN (cbR (gnS is sh sg (RR, CD, q) C).1 (RR, CD, q) (gnS is sh sg (RR, CD, q) C).2.1).2.1), Value.long xreadLow, Value.long (lN (cbR (gnS is sh sg (RR, CD, q) C).1 (RR, CD, q) (gnS is sh sg (RR, CD, q) C).2.1).1), Value.ref ri, Value.ref ro, Value.ref rw, Value.int (nI (cbR (gnS is sh sg (RR, CD, q) C).1 (RR, CD, q) (gnS is sh sg (RR, CD, q) C).2.1).2.2)]))] H := ⟨hP, hD⟩
            have hP := hPD.1
            have hD := hPD.2
            exact my_iret (v := r_76) hx hb hr (rfl) hlocks hQ hK hS (Nat.le_refl _) (Nat.le_refl _) ((lN CD), (lN RR), (nI q), sm9, fK) (⟨by rw [hgs]; exact hr_76, fun z => absurd (by rw [hgs]) z⟩) (hP.sub [5, 0, 1, 2, 3, 4] rfl) (hD.sub [5, 0, 1, 2, 3, 4] (by decide +kernel) rfl) d_Bits_nextSign_79
          · have hin9 : nd - 2 ^ lv < sg := nI_lt' (by omega) c_5
            refine lv_iload hx hb d_Bits_nextSign_70 (lv_at hl 0 rfl) ?_
            refine lv_goto (tgt := 79) hx hb d_Bits_nextSign_72 (by decide) ?_
            have hg9 : gnN is sh lv 1 (RR, CD, q) C = (nd, e9, D) := by rw [hE9, show lv - j = 0 by omega]; rfl
            have hgs : gnS is sh sg (RR, CD, q) C = (some (nd - 2 ^ lv), e9, D) := by
              unfold gnS
              rw [← hlv, if_pos (show CD < RR from hlt0), hg9]
              rw [if_pos hin9]
            have hcb : cbR (gnS is sh sg (RR, CD, q) C).1 (RR, CD, q) (gnS is sh sg (RR, CD, q) C).2.1 = e9 := by rw [hgs]; rfl
            have hsu : (lN e9.1 : Int64) = lN (cbR (gnS is sh sg (RR, CD, q) C).1 (RR, CD, q) (gnS is sh sg (RR, CD, q) C).2.1).1 := by rw [hcb]
            have hP := Eq.mp (congrArg (fun (z9 : Int64) => va_P (dC, dI) vwCl [(ri, Sum.inr (0, [Value.int (nI is.length), Value.ref ria])), (ria, Sum.inl (cI, rik, Sum.inl rif)), (oo, Sum.inr (7, [Value.int (nI sg), Value.int sm9, Value.int ofc, Value.ref oca, Value.ref opa])), (oca, Sum.inl (cI, n, Sum.inl fK)), (opa, Sum.inl (cI, opl, Sum.inl opf)), (co, Sum.inr (3, [Value.int (nI sh), Value.long (lN CD), Value.long (lN RR), Value.int (nI q), Value.int xcache, Value.int xpending, Value.long xlow, Value.long xrange, Value.long (lN e9.2.1), Value.long xreadLow, Value.long z9, Value.ref ri, Value.ref ro, Value.ref rw, Value.int (nI e9.2.2)]))] H) hsu) hP
            have hD := Eq.mp (congrArg (fun (z9 : Int64) => va_D A [(ri, Sum.inr (0, [Value.int (nI is.length), Value.ref ria])), (ria, Sum.inl (cI, rik, Sum.inl rif)), (oo, Sum.inr (7, [Value.int (nI sg), Value.int sm9, Value.int ofc, Value.ref oca, Value.ref opa])), (oca, Sum.inl (cI, n, Sum.inl fK)), (opa, Sum.inl (cI, opl, Sum.inl opf)), (co, Sum.inr (3, [Value.int (nI sh), Value.long (lN CD), Value.long (lN RR), Value.int (nI q), Value.int xcache, Value.int xpending, Value.long xlow, Value.long xrange, Value.long (lN e9.2.1), Value.long xreadLow, Value.long z9, Value.ref ri, Value.ref ro, Value.ref rw, Value.int (nI e9.2.2)]))]) hsu) hD
            have hPD : my_PD (dC, dI) vwCl A [(ri, Sum.inr (0, [Value.int (nI is.length), Value.ref ria])), (ria, Sum.inl (cI, rik, Sum.inl rif)), (oo, Sum.inr (7, [Value.int (nI sg), Value.int sm9, Value.int ofc, Value.ref oca, Value.ref opa])), (oca, Sum.inl (cI, n, Sum.inl fK)), (opa, Sum.inl (cI, opl, Sum.inl opf)), (co, Sum.inr (3, [Value.int (nI sh), Value.long (lN CD), Value.long (lN RR), Value.int (nI q), Value.int xcache, Value.int xpending, Value.long xlow, Value.long xrange, Value.long (lN e9.2.1), Value.long xreadLow, Value.long (lN (cbR (gnS is sh sg (RR, CD, q) C).1 (RR, CD, q) (gnS is sh sg (RR, CD, q) C).2.1).1), Value.ref ri, Value.ref ro, Value.ref rw, Value.int (nI e9.2.2)]))] H := ⟨hP, hD⟩
            have hP := hPD.1
            have hD := hPD.2
            have hsu : (lN e9.2.1 : Int64) = lN (cbR (gnS is sh sg (RR, CD, q) C).1 (RR, CD, q) (gnS is sh sg (RR, CD, q) C).2.1).2.1 := by rw [hcb]
            have hP := Eq.mp (congrArg (fun (z9 : Int64) => va_P (dC, dI) vwCl [(ri, Sum.inr (0, [Value.int (nI is.length), Value.ref ria])), (ria, Sum.inl (cI, rik, Sum.inl rif)), (oo, Sum.inr (7, [Value.int (nI sg), Value.int sm9, Value.int ofc, Value.ref oca, Value.ref opa])), (oca, Sum.inl (cI, n, Sum.inl fK)), (opa, Sum.inl (cI, opl, Sum.inl opf)), (co, Sum.inr (3, [Value.int (nI sh), Value.long (lN CD), Value.long (lN RR), Value.int (nI q), Value.int xcache, Value.int xpending, Value.long xlow, Value.long xrange, Value.long z9, Value.long xreadLow, Value.long (lN (cbR (gnS is sh sg (RR, CD, q) C).1 (RR, CD, q) (gnS is sh sg (RR, CD, q) C).2.1).1), Value.ref ri, Value.ref ro, Value.ref rw, Value.int (nI e9.2.2)]))] H) hsu) hP
            have hD := Eq.mp (congrArg (fun (z9 : Int64) => va_D A [(ri, Sum.inr (0, [Value.int (nI is.length), Value.ref ria])), (ria, Sum.inl (cI, rik, Sum.inl rif)), (oo, Sum.inr (7, [Value.int (nI sg), Value.int sm9, Value.int ofc, Value.ref oca, Value.ref opa])), (oca, Sum.inl (cI, n, Sum.inl fK)), (opa, Sum.inl (cI, opl, Sum.inl opf)), (co, Sum.inr (3, [Value.int (nI sh), Value.long (lN CD), Value.long (lN RR), Value.int (nI q), Value.int xcache, Value.int xpending, Value.long xlow, Value.long xrange, Value.long z9, Value.long xreadLow, Value.long (lN (cbR (gnS is sh sg (RR, CD, q) C).1 (RR, CD, q) (gnS is sh sg (RR, CD, q) C).2.1).1), Value.ref ri, Value.ref ro, Value.ref rw, Value.int (nI e9.2.2)]))]) hsu) hD
            have hPD : my_PD (dC, dI) vwCl A [(ri, Sum.inr (0, [Value.int (nI is.length), Value.ref ria])), (ria, Sum.inl (cI, rik, Sum.inl rif)), (oo, Sum.inr (7, [Value.int (nI sg), Value.int sm9, Value.int ofc, Value.ref oca, Value.ref opa])), (oca, Sum.inl (cI, n, Sum.inl fK)), (opa, Sum.inl (cI, opl, Sum.inl opf)), (co, Sum.inr (3, [Value.int (nI sh), Value.long (lN CD), Value.long (lN RR), Value.int (nI q), Value.int xcache, Value.int xpending, Value.long xlow, Value.long xrange, Value.long (lN (cbR (gnS is sh sg (RR, CD, q) C).1 (RR, CD, q) (gnS is sh sg (RR, CD, q) C).2.1).2.1), Value.long xreadLow, Value.long (lN (cbR (gnS is sh sg (RR, CD, q) C).1 (RR, CD, q) (gnS is sh sg (RR, CD, q) C).2.1).1), Value.ref ri, Value.ref ro, Value.ref rw, Value.int (nI e9.2.2)]))] H := ⟨hP, hD⟩
            have hP := hPD.1
            have hD := hPD.2
            have hsu : (nI e9.2.2 : Int32) = nI (cbR (gnS is sh sg (RR, CD, q) C).1 (RR, CD, q) (gnS is sh sg (RR, CD, q) C).2.1).2.2 := by rw [hcb]
            have hP := Eq.mp (congrArg (fun (z9 : Int32) => va_P (dC, dI) vwCl [(ri, Sum.inr (0, [Value.int (nI is.length), Value.ref ria])), (ria, Sum.inl (cI, rik, Sum.inl rif)), (oo, Sum.inr (7, [Value.int (nI sg), Value.int sm9, Value.int ofc, Value.ref oca, Value.ref opa])), (oca, Sum.inl (cI, n, Sum.inl fK)), (opa, Sum.inl (cI, opl, Sum.inl opf)), (co, Sum.inr (3, [Value.int (nI sh), Value.long (lN CD), Value.long (lN RR), Value.int (nI q), Value.int xcache, Value.int xpending, Value.long xlow, Value.long xrange, Value.long (lN (cbR (gnS is sh sg (RR, CD, q) C).1 (RR, CD, q) (gnS is sh sg (RR, CD, q) C).2.1).2.1), Value.long xreadLow, Value.long (lN (cbR (gnS is sh sg (RR, CD, q) C).1 (RR, CD, q) (gnS is sh sg (RR, CD, q) C).2.1).1), Value.ref ri, Value.ref ro, Value.ref rw, Value.int z9]))] H) hsu) hP
            have hD := Eq.mp (congrArg (fun (z9 : Int32) => va_D A [(ri, Sum.inr (0, [Value.int (nI is.length), Value.ref ria])), (ria, Sum.inl (cI, rik, Sum.inl rif)), (oo, Sum.inr (7, [Value.int (nI sg), Value.int sm9, Value.int ofc, Value.ref oca, Value.ref opa])), (oca, Sum.inl (cI, n, Sum.inl fK)), (opa, Sum.inl (cI, opl, Sum.inl opf)), (co, Sum.inr (3, [Value.int (nI sh), Value.long (lN CD), Value.long (lN RR), Value.int (nI q), Value.int xcache, Value.int xpending, Value.long xlow, Value.long xrange, Value.long (lN (cbR (gnS is sh sg (RR, CD, q) C).1 (RR, CD, q) (gnS is sh sg (RR, CD, q) C).2.1).2.1), Value.long xreadLow, Value.long (lN (cbR (gnS is sh sg (RR, CD, q) C).1 (RR, CD, q) (gnS is sh sg (RR, CD, q) C).2.1).1), Value.ref ri, Value.ref ro, Value.ref rw, Value.int z9]))]) hsu) hD
            have hPD : my_PD (dC, dI) vwCl A [(ri, Sum.inr (0, [Value.int (nI is.length), Value.ref ria])), (ria, Sum.inl (cI, rik, Sum.inl rif)), (oo, Sum.inr (7, [Value.int (nI sg), Value.int sm9, Value.int ofc, Value.ref oca, Value.ref opa])), (oca, Sum.inl (cI, n, Sum.inl fK)), (opa, Sum.inl (cI, opl, Sum.inl opf)), (co, Sum.inr (3, [Value.int (nI sh), Value.long (lN CD), Value.long (lN RR), Value.int (nI q), Value.int xcache, Value.int xpending, Value.long xlow, Value.long xrange, Value.long (lN (cbR (gnS is sh sg (RR, CD, q) C).1 (RR, CD, q) (gnS is sh sg (RR, CD, q) C).2.1).2.1), Value.long xreadLow, Value.long (lN (cbR (gnS is sh sg (RR, CD, q) C).1 (RR, CD, q) (gnS is sh sg (RR, CD, q) C).2.1).1), Value.ref ri, Value.ref ro, Value.ref rw, Value.int (nI (cbR (gnS is sh sg (RR, CD, q) C).1 (RR, CD, q) (gnS is sh sg (RR, CD, q) C).2.1).2.2)]))] H := ⟨hP, hD⟩
            have hP := hPD.1
            have hD := hPD.2
            exact my_iret (v := (nI (nd - 2 ^ lv))) hx hb hr (rfl) hlocks hQ hK hS (Nat.le_refl _) (Nat.le_refl _) ((lN CD), (lN RR), (nI q), sm9, fK) (⟨by rw [hgs]; rfl, fun _ => by rw [hgs]; exact hfK⟩) (hP.sub [5, 0, 1, 2, 3, 4] rfl) (hD.sub [5, 0, 1, 2, 3, 4] (by decide +kernel) rfl) d_Bits_nextSign_79
        · have hj2 : j < lv := nI_lt' (by omega) c_2
          have hpl : 2 ^ (j + 1) ≤ 2 ^ lv := Nat.pow_le_pow_right (by decide) (by omega)
          have hndn : nd < n := by rw [hnl]; omega
          have hnd64 : nd < 64 := by omega
          have hb2 := rbt_lt (e9.1 / 2048 * D nd) e9.2.1
          obtain ⟨hJ1, hJ2, hJ3⟩ := id hI9
          have hd1 := (hD9 nd hnd64).1
          have hd2 := (hD9 nd hnd64).2
          have hbq : 8192 ≤ e9.1 / 2048 := by omega
          have hbl : e9.1 / 2048 * D nd ≤ e9.1 / 2048 * 2047 := Nat.mul_le_mul_left _ hd2
          have hbg : e9.1 / 2048 * 1 ≤ e9.1 / 2048 * D nd := Nat.mul_le_mul_left _ hd1
          have hrk := rb_ok (bb := e9.1 / 2048 * D nd) (RR := e9.1) (CD := e9.2.1) (q := e9.2.2) (by omega) (by omega) hJ2 hJ3
          have hw9 := wr_inv (is := is) hoct hrk.1 hrk.2.1 hrk.2.2.1
          rw [hrk.2.2.2] at hw9
          refine lv_iconst (v := 2) hx hb d_Bits_nextSign_37 (by decide) ?_
          refine lv_iload_n hx hb d_Bits_nextSign_38 rfl (lv_at hl 1 rfl) ?_
          refine lv_imul hx hb d_Bits_nextSign_39 ?_
          refine lv_topi (fun v_6 ev_6 => ?_)
          refine lv_aload_n hx hb d_Bits_nextSign_40 rfl (lv_at hl 3 rfl) ?_
          refine lv_aload_n hx hb d_Bits_nextSign_41 rfl (lv_at hl 4 rfl) ?_
          refine lv_iload_n hx hb d_Bits_nextSign_42 rfl (lv_at hl 1 rfl) ?_
          refine my_ci (wr := []) (va_runV (As := [Value.ref oo, Value.int (nI nd)]) (rest := [Value.int v_6]) ⟨hx, hb, hml, hown, hts⟩ (f_Bits_nextBit l dC dI cI cM cO H.size co (lN CD) (lN RR) (nI q) xcache xpending xlow xrange xreadLow ri ro rw ria rik rif is e9.1 e9.2.1 e9.2.2 oo (nI sg) ofc oca opa n fK opl opf sm9 nd (D nd) sh (hri) (hGri) (hLri) (hoct) (by first | assumption | omega) (by first | assumption | omega) (by have := Nat.two_pow_pos j; omega) (hndn) (by first | assumption | omega) (hfK nd hndn) (hd1) (hd2) (hs2) (hI9) (by omega)) (cwV 2 hts (my_gV k785 k787 ks14 k8 k788) rfl rfl rfl cu_Bits_nextBit_2 ⟨by rw [hR]; exact Nat.le_of_ble_eq_true rfl, by rw [hR]; exact Nat.le_of_ble_eq_true rfl⟩) (my_preV hK hN (hP.sub [5, 0, 1, 2, 3, 4] rfl) (hD.sub [5, 0, 1, 2, 3, 4] (by decide +kernel) rfl) 0 rfl rfl) rfl rfl hl.1 rfl (lv_room (Nat.le_of_ble_eq_true rfl)) d_Bits_nextSign_43 ⟨by rw [hR]; exact Nat.le_of_ble_eq_true rfl, by rw [hR]; exact Nat.le_of_ble_eq_true rfl⟩) hP hD hS hA [5, 0, 1, 2, 3, 4] [] rfl rfl (by decide +kernel) (by decide +kernel) (fun r_43 u9 H locs hw_43 hP hD hS => ?_)
          obtain ⟨osmq_43, ocfq_43⟩ := u9
          obtain ⟨hr_43, hc_43⟩ : r_43 = nI (rbt (e9.1 / 2048 * (D nd)) e9.2.1) ∧ ocfq_43 = upd fK nd (nI (mvC sh (rbt (e9.1 / 2048 * (D nd)) e9.2.1) (D nd))) := hw_43
          have hPD : my_PD (dC, dI) vwCl A [(co, Sum.inr (3, [Value.int (nI sh), Value.long (lN CD), Value.long (lN RR), Value.int (nI q), Value.int xcache, Value.int xpending, Value.long xlow, Value.long xrange, Value.long (lN (wrS is (rbS (e9.1 / 2048 * (D nd)) e9.1 e9.2.1 e9.2.2)).2.1), Value.long xreadLow, Value.long (lN (wrS is (rbS (e9.1 / 2048 * (D nd)) e9.1 e9.2.1 e9.2.2)).1), Value.ref ri, Value.ref ro, Value.ref rw, Value.int (nI (wrS is (rbS (e9.1 / 2048 * (D nd)) e9.1 e9.2.1 e9.2.2)).2.2)])), (ri, Sum.inr (0, [Value.int (nI is.length), Value.ref ria])), (ria, Sum.inl (cI, rik, Sum.inl rif)), (oo, Sum.inr (7, [Value.int (nI sg), Value.int osmq_43, Value.int ofc, Value.ref oca, Value.ref opa])), (oca, Sum.inl (cI, n, Sum.inl ocfq_43)), (opa, Sum.inl (cI, opl, Sum.inl opf))] H := ⟨hP, hD⟩
          have hP := hPD.1
          have hD := hPD.2
          have z9 : r_43 = nI (rbt (e9.1 / 2048 * D nd) e9.2.1) := hr_43
          subst z9
          refine lv_iadd hx hb d_Bits_nextSign_46 ?_
          refine lv_topi (fun v_7 ev_7 => ?_)
          have z9 : v_7 = nI (2 * nd + rbt (e9.1 / 2048 * D nd) e9.2.1) := by subst_vars; rw [show (2 : Int32) * nI nd = nI (2 * nd) from pk_mul 2 nd]; exact nI_add _ _
          subst z9
          refine lv_istore_n (lv' := [(3, Value.int (nI (2 * nd + rbt (e9.1 / 2048 * D nd) e9.2.1))), (4, Value.int (nI j)), (2, Value.int (nI lv)), (0, Value.ref co), (1, Value.ref oo)]) hx hb d_Bits_nextSign_47 rfl hl (by decide) rfl (fun ls hl => ?_)
          obtain ⟨v_8, ev_8⟩ : ∃ y : Int32, y = (nI j) + (1) := ⟨_, rfl⟩
          refine lv_iinc (v := v_8) (lv' := [(4, Value.int v_8), (3, Value.int (nI (2 * nd + rbt (e9.1 / 2048 * D nd) e9.2.1))), (2, Value.int (nI lv)), (0, Value.ref co), (1, Value.ref oo)]) hx hb d_Bits_nextSign_48 hl (k := 1) rfl (by rw [ev_8]; rfl) (by decide) rfl (fun ls hl => ?_)
          have z9 : v_8 = nI (j + 1) := by rw [ev_8]; exact nI_1 _
          subst z9
          refine lv_goto (tgt := 31) hx hb d_Bits_nextSign_51 (by decide) ?_
          exact ih9_31 _ (by first | omega | (omega)) (j + 1) (2 * nd + rbt (e9.1 / 2048 * D nd) e9.2.1) (wrS is (rbS (e9.1 / 2048 * D nd) e9.1 e9.2.1 e9.2.2)) (upN D nd (mvC sh (rbt (e9.1 / 2048 * D nd) e9.2.1) (D nd))) ocfq_43 osmq_43 rfl (by omega) (by rw [hE9, show lv - j = (lv - (j + 1)) + 1 by omega]; rfl) (hw9.1) (by have z := hw9.2.1; omega) (by rw [Nat.pow_succ 2 (j + 1), Nat.pow_succ 2 j] at *; omega) (by rw [hc_43]; exact tb_up hfK rfl rfl) (ch_up hs1 hD9) H locs ls (hP.sub [1, 2, 3, 4, 5, 0] rfl) (hD.sub [1, 2, 3, 4, 5, 0] (by decide +kernel) rfl) hS (lv_sub hl [0, 1, 2, 3, 4] rfl)
    exact J_31 _ (0 : Nat) (1 : Nat) (RR, CD, q) C ocf osm rfl (Nat.zero_le _) (rfl) (hI) (Nat.le_refl _) (⟨by decide, by decide⟩) (hf) (hC) H locs ls (hP.sub [0, 1, 2, 3, 4, 5] rfl) (hD.sub [0, 1, 2, 3, 4, 5] (by decide +kernel) rfl) hS (lv_sub hl [0, 1, 2, 3, 4] rfl)
  · rw [lg_cmp_lt] at c_1
    refine lv_iconst (v := (-1)) hx hb d_Bits_nextSign_12 (by decide) ?_
    have hgs : gnS is sh sg (RR, CD, q) C = (none, (RR, CD, q), C) := by unfold gnS; rw [if_neg (by show ¬ CD < RR; intro z; exact absurd ((L_lt (by omega) (by omega)).mpr z) c_1)]
    have hcb : cbR (gnS is sh sg (RR, CD, q) C).1 (RR, CD, q) (gnS is sh sg (RR, CD, q) C).2.1 = (RR, CD, q) := by rw [hgs]; rfl
    have hsu : (lN RR : Int64) = lN (cbR (gnS is sh sg (RR, CD, q) C).1 (RR, CD, q) (gnS is sh sg (RR, CD, q) C).2.1).1 := by rw [hcb]
    have hP := Eq.mp (congrArg (fun (z9 : Int64) => va_P (dC, dI) vwCl [(co, Sum.inr (3, [Value.int (nI sh), Value.long xkeptCode, Value.long xkeptRange, Value.int xkeptAsked, Value.int xcache, Value.int xpending, Value.long xlow, Value.long xrange, Value.long (lN CD), Value.long xreadLow, Value.long z9, Value.ref ri, Value.ref ro, Value.ref rw, Value.int (nI q)])), (ri, Sum.inr (0, [Value.int (nI is.length), Value.ref ria])), (ria, Sum.inl (cI, rik, Sum.inl rif)), (oo, Sum.inr (7, [Value.int (nI sg), Value.int osm, Value.int ofc, Value.ref oca, Value.ref opa])), (oca, Sum.inl (cI, n, Sum.inl ocf)), (opa, Sum.inl (cI, opl, Sum.inl opf))] H) hsu) hP
    have hD := Eq.mp (congrArg (fun (z9 : Int64) => va_D A [(co, Sum.inr (3, [Value.int (nI sh), Value.long xkeptCode, Value.long xkeptRange, Value.int xkeptAsked, Value.int xcache, Value.int xpending, Value.long xlow, Value.long xrange, Value.long (lN CD), Value.long xreadLow, Value.long z9, Value.ref ri, Value.ref ro, Value.ref rw, Value.int (nI q)])), (ri, Sum.inr (0, [Value.int (nI is.length), Value.ref ria])), (ria, Sum.inl (cI, rik, Sum.inl rif)), (oo, Sum.inr (7, [Value.int (nI sg), Value.int osm, Value.int ofc, Value.ref oca, Value.ref opa])), (oca, Sum.inl (cI, n, Sum.inl ocf)), (opa, Sum.inl (cI, opl, Sum.inl opf))]) hsu) hD
    have hPD : my_PD (dC, dI) vwCl A [(co, Sum.inr (3, [Value.int (nI sh), Value.long xkeptCode, Value.long xkeptRange, Value.int xkeptAsked, Value.int xcache, Value.int xpending, Value.long xlow, Value.long xrange, Value.long (lN CD), Value.long xreadLow, Value.long (lN (cbR (gnS is sh sg (RR, CD, q) C).1 (RR, CD, q) (gnS is sh sg (RR, CD, q) C).2.1).1), Value.ref ri, Value.ref ro, Value.ref rw, Value.int (nI q)])), (ri, Sum.inr (0, [Value.int (nI is.length), Value.ref ria])), (ria, Sum.inl (cI, rik, Sum.inl rif)), (oo, Sum.inr (7, [Value.int (nI sg), Value.int osm, Value.int ofc, Value.ref oca, Value.ref opa])), (oca, Sum.inl (cI, n, Sum.inl ocf)), (opa, Sum.inl (cI, opl, Sum.inl opf))] H := ⟨hP, hD⟩
    have hP := hPD.1
    have hD := hPD.2
    have hsu : (lN CD : Int64) = lN (cbR (gnS is sh sg (RR, CD, q) C).1 (RR, CD, q) (gnS is sh sg (RR, CD, q) C).2.1).2.1 := by rw [hcb]
    have hP := Eq.mp (congrArg (fun (z9 : Int64) => va_P (dC, dI) vwCl [(co, Sum.inr (3, [Value.int (nI sh), Value.long xkeptCode, Value.long xkeptRange, Value.int xkeptAsked, Value.int xcache, Value.int xpending, Value.long xlow, Value.long xrange, Value.long z9, Value.long xreadLow, Value.long (lN (cbR (gnS is sh sg (RR, CD, q) C).1 (RR, CD, q) (gnS is sh sg (RR, CD, q) C).2.1).1), Value.ref ri, Value.ref ro, Value.ref rw, Value.int (nI q)])), (ri, Sum.inr (0, [Value.int (nI is.length), Value.ref ria])), (ria, Sum.inl (cI, rik, Sum.inl rif)), (oo, Sum.inr (7, [Value.int (nI sg), Value.int osm, Value.int ofc, Value.ref oca, Value.ref opa])), (oca, Sum.inl (cI, n, Sum.inl ocf)), (opa, Sum.inl (cI, opl, Sum.inl opf))] H) hsu) hP
    have hD := Eq.mp (congrArg (fun (z9 : Int64) => va_D A [(co, Sum.inr (3, [Value.int (nI sh), Value.long xkeptCode, Value.long xkeptRange, Value.int xkeptAsked, Value.int xcache, Value.int xpending, Value.long xlow, Value.long xrange, Value.long z9, Value.long xreadLow, Value.long (lN (cbR (gnS is sh sg (RR, CD, q) C).1 (RR, CD, q) (gnS is sh sg (RR, CD, q) C).2.1).1), Value.ref ri, Value.ref ro, Value.ref rw, Value.int (nI q)])), (ri, Sum.inr (0, [Value.int (nI is.length), Value.ref ria])), (ria, Sum.inl (cI, rik, Sum.inl rif)), (oo, Sum.inr (7, [Value.int (nI sg), Value.int osm, Value.int ofc, Value.ref oca, Value.ref opa])), (oca, Sum.inl (cI, n, Sum.inl ocf)), (opa, Sum.inl (cI, opl, Sum.inl opf))]) hsu) hD
    have hPD : my_PD (dC, dI) vwCl A [(co, Sum.inr (3, [Value.int (nI sh), Value.long xkeptCode, Value.long xkeptRange, Value.int xkeptAsked, Value.int xcache, Value.int xpending, Value.long xlow, Value.long xrange, Value.long (lN (cbR (gnS is sh sg (RR, CD, q) C).1 (RR, CD, q) (gnS is sh sg (RR, CD, q) C).2.1).2.1), Value.long xreadLow, Value.long (lN (cbR (gnS is sh sg (RR, CD, q) C).1 (RR, CD, q) (gnS is sh sg (RR, CD, q) C).2.1).1), Value.ref ri, Value.ref ro, Value.ref rw, Value.int (nI q)])), (ri, Sum.inr (0, [Value.int (nI is.length), Value.ref ria])), (ria, Sum.inl (cI, rik, Sum.inl rif)), (oo, Sum.inr (7, [Value.int (nI sg), Value.int osm, Value.int ofc, Value.ref oca, Value.ref opa])), (oca, Sum.inl (cI, n, Sum.inl ocf)), (opa, Sum.inl (cI, opl, Sum.inl opf))] H := ⟨hP, hD⟩
    have hP := hPD.1
    have hD := hPD.2
    have hsu : (nI q : Int32) = nI (cbR (gnS is sh sg (RR, CD, q) C).1 (RR, CD, q) (gnS is sh sg (RR, CD, q) C).2.1).2.2 := by rw [hcb]
    have hP := Eq.mp (congrArg (fun (z9 : Int32) => va_P (dC, dI) vwCl [(co, Sum.inr (3, [Value.int (nI sh), Value.long xkeptCode, Value.long xkeptRange, Value.int xkeptAsked, Value.int xcache, Value.int xpending, Value.long xlow, Value.long xrange, Value.long (lN (cbR (gnS is sh sg (RR, CD, q) C).1 (RR, CD, q) (gnS is sh sg (RR, CD, q) C).2.1).2.1), Value.long xreadLow, Value.long (lN (cbR (gnS is sh sg (RR, CD, q) C).1 (RR, CD, q) (gnS is sh sg (RR, CD, q) C).2.1).1), Value.ref ri, Value.ref ro, Value.ref rw, Value.int z9])), (ri, Sum.inr (0, [Value.int (nI is.length), Value.ref ria])), (ria, Sum.inl (cI, rik, Sum.inl rif)), (oo, Sum.inr (7, [Value.int (nI sg), Value.int osm, Value.int ofc, Value.ref oca, Value.ref opa])), (oca, Sum.inl (cI, n, Sum.inl ocf)), (opa, Sum.inl (cI, opl, Sum.inl opf))] H) hsu) hP
    have hD := Eq.mp (congrArg (fun (z9 : Int32) => va_D A [(co, Sum.inr (3, [Value.int (nI sh), Value.long xkeptCode, Value.long xkeptRange, Value.int xkeptAsked, Value.int xcache, Value.int xpending, Value.long xlow, Value.long xrange, Value.long (lN (cbR (gnS is sh sg (RR, CD, q) C).1 (RR, CD, q) (gnS is sh sg (RR, CD, q) C).2.1).2.1), Value.long xreadLow, Value.long (lN (cbR (gnS is sh sg (RR, CD, q) C).1 (RR, CD, q) (gnS is sh sg (RR, CD, q) C).2.1).1), Value.ref ri, Value.ref ro, Value.ref rw, Value.int z9])), (ri, Sum.inr (0, [Value.int (nI is.length), Value.ref ria])), (ria, Sum.inl (cI, rik, Sum.inl rif)), (oo, Sum.inr (7, [Value.int (nI sg), Value.int osm, Value.int ofc, Value.ref oca, Value.ref opa])), (oca, Sum.inl (cI, n, Sum.inl ocf)), (opa, Sum.inl (cI, opl, Sum.inl opf))]) hsu) hD
    have hPD : my_PD (dC, dI) vwCl A [(co, Sum.inr (3, [Value.int (nI sh), Value.long xkeptCode, Value.long xkeptRange, Value.int xkeptAsked, Value.int xcache, Value.int xpending, Value.long xlow, Value.long xrange, Value.long (lN (cbR (gnS is sh sg (RR, CD, q) C).1 (RR, CD, q) (gnS is sh sg (RR, CD, q) C).2.1).2.1), Value.long xreadLow, Value.long (lN (cbR (gnS is sh sg (RR, CD, q) C).1 (RR, CD, q) (gnS is sh sg (RR, CD, q) C).2.1).1), Value.ref ri, Value.ref ro, Value.ref rw, Value.int (nI (cbR (gnS is sh sg (RR, CD, q) C).1 (RR, CD, q) (gnS is sh sg (RR, CD, q) C).2.1).2.2)])), (ri, Sum.inr (0, [Value.int (nI is.length), Value.ref ria])), (ria, Sum.inl (cI, rik, Sum.inl rif)), (oo, Sum.inr (7, [Value.int (nI sg), Value.int osm, Value.int ofc, Value.ref oca, Value.ref opa])), (oca, Sum.inl (cI, n, Sum.inl ocf)), (opa, Sum.inl (cI, opl, Sum.inl opf))] H := ⟨hP, hD⟩
    have hP := hPD.1
    have hD := hPD.2
    exact my_iret (v := (-1)) hx hb hr (rfl) hlocks hQ hK hS (Nat.le_refl _) (Nat.le_refl _) (xkeptCode, xkeptRange, xkeptAsked, osm, ocf) (⟨by rw [hgs]; rfl, fun z => absurd (by rw [hgs]) z⟩) (hP.sub [0, 1, 2, 3, 4, 5] rfl) (hD.sub [0, 1, 2, 3, 4, 5] (by decide +kernel) rfl) d_Bits_nextSign_13
set_option maxHeartbeats 20000000 in
set_option maxRecDepth 100000 in
theorem f_Bits_nextValue (l : Launch) (dC : Nat → ClassId) (dI : Nat → Nat → Nat) (cI cM cO : ClassId) (sz : Nat) (co : Nat) (xshift : Int32) (xkeptCode : Int64) (xkeptRange : Int64) (xkeptAsked : Int32) (xcache : Int32) (xpending : Int32) (xlow : Int64) (xrange : Int64) (xreadLow : Int64) (ri : Nat) (ro : Nat) (rw : Nat) (ria : Nat) (rik : Nat) (rif : Nat → Int32) (is : List Nat) (RR : Nat) (CD : Nat) (q : Nat) (b : Nat) (hri : rOk (nI is.length) rik) (hGri : gIs rif is) (hLri : is.length ≤ 6000) (hoct : oct is) (hb1 : 1 ≤ b) (hb2 : b ≤ 12) (hI : rInv (RR, CD, q)) (hq : q < 800000000) : MetI l y_Bits_nextValue (Cond.code y_Bits_nextValue prog_2_method_8_code 5 (some .int) :: gw) ({ frames := 4, cells := 0, slots := 0, locals := 84 } : Room) (dC, dI) vwCl (kT cI cM cO) [Value.ref co, Value.int (nI b)] [(co, Sum.inr (3, [Value.int xshift, Value.long xkeptCode, Value.long xkeptRange, Value.int xkeptAsked, Value.int xcache, Value.int xpending, Value.long xlow, Value.long xrange, Value.long (lN CD), Value.long xreadLow, Value.long (lN RR), Value.ref ri, Value.ref ro, Value.ref rw, Value.int (nI q)])), (ri, Sum.inr (0, [Value.int (nI is.length), Value.ref ria])), (ria, Sum.inl (cI, rik, Sum.inl rif))] sz (fun (r : Int32) (u : Int64 × Int64 × Int32) => r = oI (pbS is b (RR, CD, q)).1) (fun (u : Int64 × Int64 × Int32) => [(co, Sum.inr (3, [Value.int xshift, Value.long u.1, Value.long u.2.1, Value.int u.2.2, Value.int xcache, Value.int xpending, Value.long xlow, Value.long xrange, Value.long (lN (cbR (pbS is b (RR, CD, q)).1 (RR, CD, q) (pbS is b (RR, CD, q)).2).2.1), Value.long xreadLow, Value.long (lN (cbR (pbS is b (RR, CD, q)).1 (RR, CD, q) (pbS is b (RR, CD, q)).2).1), Value.ref ri, Value.ref ro, Value.ref rw, Value.int (nI (cbR (pbS is b (RR, CD, q)).1 (RR, CD, q) (pbS is b (RR, CD, q)).2).2.2)])), (ri, Sum.inr (0, [Value.int (nI is.length), Value.ref ria])), (ria, Sum.inl (cI, rik, Sum.inl rif))]) 0 0 := by
  refine my_ofI (cc := prog_2_method_8_code) (n := 5) (ret := (some .int)) (by decide) rfl (Nat.le_of_ble_eq_true rfl) ?_
  intro p e s m args below meth c R Q A ls H locs hx hb hr hts hown hlocks hml hnm hR hQ hA hl hP hK hN hD hS
  have hg : ∀ w ∈ gw, w.before args s = true := fun w h => hts w (List.mem_cons_of_mem _ h)
  have hown : s.vm.findClass "RangeCoders$Bits" = some m.cls := hown
  have hl : lv_has ls 5 [(0, Value.ref co), (1, Value.int (nI b))] := hl
  have hlti := rOk_lt hri
  obtain ⟨hI1, hI2, hI3⟩ := id hI
  simp only at hI1 hI2 hI3
  refine lv_aload_n hx hb d_Bits_nextValue_0 rfl (lv_at hl 0 rfl) ?_
  refine va_get (D := (dC, dI)) (ci := 3) (v := .long (lN CD)) (C := "RangeCoders$Bits") (T := T_Bits) (N := 15) hx hb hg in_Bits hown hK hP 0 rfl rfl 8 (by decide) (hg _ k88) (fun x9 h9 => u_same (hg _ k89) x9 h9) rfl d_Bits_nextValue_1 ?_
  refine lv_aload_n hx hb d_Bits_nextValue_4 rfl (lv_at hl 0 rfl) ?_
  refine va_get (D := (dC, dI)) (ci := 3) (v := .long (lN RR)) (C := "RangeCoders$Bits") (T := T_Bits) (N := 15) hx hb hg in_Bits hown hK hP 0 rfl rfl 10 (by decide) (hg _ k98) (fun x9 h9 => u_same (hg _ k99) x9 h9) rfl d_Bits_nextValue_5 ?_
  refine W.lcmp hx hb d_Bits_nextValue_8 ?_
  refine lv_if_lt (tgt := 14) hx hb d_Bits_nextValue_9 (by decide) (fun c_1 => ?_) (fun c_1 => ?_)
  · rw [lg_cmp_lt] at c_1
    have hlt0 : CD < RR := (L_lt (by omega) (by omega)).mp c_1
    refine lv_aload_n hx hb d_Bits_nextValue_14 rfl (lv_at hl 0 rfl) ?_
    refine my_cv (wr := [(ri, Sum.inr (0, [Value.int (nI is.length), Value.ref ria])), (ria, Sum.inl (cI, rik, Sum.inl rif))]) (va_runV (As := []) (rest := []) ⟨hx, hb, hml, hown, hts⟩ (f_Bits_keepReading l dC dI cI cM cO H.size co xshift xkeptCode xkeptRange xkeptAsked xcache xpending xlow xrange (lN CD) xreadLow (lN RR) ri ro rw (nI q)) (cwV 0 hts (my_gV k781 k783 ks13 k8 k784) rfl rfl rfl cu_Bits_keepReading_0 ⟨by rw [hR]; exact Nat.le_of_ble_eq_true rfl, by rw [hR]; exact Nat.le_of_ble_eq_true rfl⟩) (my_preV hK hN (hP.sub [0] rfl) (hD.sub [0] (by decide +kernel) rfl) 0 rfl rfl) rfl rfl hl.1 rfl (lv_room (Nat.le_of_ble_eq_true rfl)) d_Bits_nextValue_15 ⟨by rw [hR]; exact Nat.le_of_ble_eq_true rfl, by rw [hR]; exact Nat.le_of_ble_eq_true rfl⟩) hP hD hS hA [0] [1, 2] rfl rfl (by decide +kernel) (by decide +kernel) (fun u9 H locs hw_15 hP hD hS => ?_)
    have hPD : my_PD (dC, dI) vwCl A [(ri, Sum.inr (0, [Value.int (nI is.length), Value.ref ria])), (ria, Sum.inl (cI, rik, Sum.inl rif)), (co, Sum.inr (3, [Value.int xshift, Value.long (lN CD), Value.long (lN RR), Value.int (nI q), Value.int xcache, Value.int xpending, Value.long xlow, Value.long xrange, Value.long (lN CD), Value.long xreadLow, Value.long (lN RR), Value.ref ri, Value.ref ro, Value.ref rw, Value.int (nI q)]))] H := ⟨hP, hD⟩
    have hP := hPD.1
    have hD := hPD.2
    refine lv_iconst (v := 0) hx hb d_Bits_nextValue_18 (by decide) ?_
    refine lv_istore_n (lv' := [(2, Value.int 0), (0, Value.ref co), (1, Value.int (nI b))]) hx hb d_Bits_nextValue_19 rfl hl (by decide) rfl (fun ls hl => ?_)
    refine lv_iconst (v := 0) hx hb d_Bits_nextValue_20 (by decide) ?_
    refine lv_istore_n (lv' := [(3, Value.int 0), (2, Value.int 0), (0, Value.ref co), (1, Value.int (nI b))]) hx hb d_Bits_nextValue_21 rfl hl (by decide) rfl (fun ls hl => ?_)
    have J_22 : ∀ (n9_22 : Nat) (j : Nat) (vv : Nat) (e9 : RS) (hn9_22 : b - j = n9_22) (hj : j ≤ b) (hE9 : pbS is b (RR, CD, q) = pbN is (b - j) vv e9) (hI9 : rInv e9) (hq9 : e9.2.2 ≤ q + 3 * j) (hv9 : vv < 2 ^ j) (H : Heap) (locs : List Loc) (ls : Array Slot), va_P (dC, dI) vwCl [(ri, Sum.inr (0, [Value.int (nI is.length), Value.ref ria])), (ria, Sum.inl (cI, rik, Sum.inl rif)), (co, Sum.inr (3, [Value.int xshift, Value.long (lN CD), Value.long (lN RR), Value.int (nI q), Value.int xcache, Value.int xpending, Value.long xlow, Value.long xrange, Value.long (lN e9.2.1), Value.long xreadLow, Value.long (lN e9.1), Value.ref ri, Value.ref ro, Value.ref rw, Value.int (nI e9.2.2)]))] H → va_D A [(ri, Sum.inr (0, [Value.int (nI is.length), Value.ref ria])), (ria, Sum.inl (cI, rik, Sum.inl rif)), (co, Sum.inr (3, [Value.int xshift, Value.long (lN CD), Value.long (lN RR), Value.int (nI q), Value.int xcache, Value.int xpending, Value.long xlow, Value.long xrange, Value.long (lN e9.2.1), Value.long xreadLow, Value.long (lN e9.1), Value.ref ri, Value.ref ro, Value.ref rw, Value.int (nI e9.2.2)]))] → va_S A s.heap H locs → lv_has ls 5 [(3, Value.int (nI j)), (2, Value.int (nI vv)), (0, Value.ref co), (1, Value.int (nI b))] → W p l e R s m args below meth c H locs 0 0 Q (F0 m 22 ls []) := by
      intro n9_22
      induction n9_22 using Nat.strongRecOn with
      | ind n9_22 ih9_22 =>
        intro j vv e9 hn9_22 hj hE9 hI9 hq9 hv9 H locs ls hP hD hS hl
        have hp12 : 2 ^ j ≤ 2 ^ 12 := Nat.pow_le_pow_right (by decide) (by omega)
        obtain ⟨hJ1, hJ2, hJ3⟩ := id hI9
        have hrt := rbt_lt (e9.1 / 2) e9.2.1
        have hcl := crd_lt (r := e9) hJ3
        refine lv_iload_n hx hb d_Bits_nextValue_22 rfl (lv_at hl 0 rfl) ?_
        refine lv_iload_n hx hb d_Bits_nextValue_23 rfl (lv_at hl 3 rfl) ?_
        refine lv_icmp_ge (tgt := 107) hx hb d_Bits_nextValue_24 (by decide) (fun c_2 => ?_) (fun c_2 => ?_)
        · refine lv_iload_n hx hb d_Bits_nextValue_107 rfl (lv_at hl 1 rfl) ?_
          have hj3 : j = b := by have := nI_ge' (by omega) (by omega) c_2; omega
          have hgs : pbS is b (RR, CD, q) = (some vv, e9) := by rw [hE9, hj3, Nat.sub_self]; rfl
          have hcb : cbR (pbS is b (RR, CD, q)).1 (RR, CD, q) (pbS is b (RR, CD, q)).2 = e9 := by rw [hgs]; rfl
          have hsu : (lN e9.1 : Int64) = lN (cbR (pbS is b (RR, CD, q)).1 (RR, CD, q) (pbS is b (RR, CD, q)).2).1 := by rw [hcb]
          have hP := Eq.mp (congrArg (fun (z9 : Int64) => va_P (dC, dI) vwCl [(ri, Sum.inr (0, [Value.int (nI is.length), Value.ref ria])), (ria, Sum.inl (cI, rik, Sum.inl rif)), (co, Sum.inr (3, [Value.int xshift, Value.long (lN CD), Value.long (lN RR), Value.int (nI q), Value.int xcache, Value.int xpending, Value.long xlow, Value.long xrange, Value.long (lN e9.2.1), Value.long xreadLow, Value.long z9, Value.ref ri, Value.ref ro, Value.ref rw, Value.int (nI e9.2.2)]))] H) hsu) hP
          have hD := Eq.mp (congrArg (fun (z9 : Int64) => va_D A [(ri, Sum.inr (0, [Value.int (nI is.length), Value.ref ria])), (ria, Sum.inl (cI, rik, Sum.inl rif)), (co, Sum.inr (3, [Value.int xshift, Value.long (lN CD), Value.long (lN RR), Value.int (nI q), Value.int xcache, Value.int xpending, Value.long xlow, Value.long xrange, Value.long (lN e9.2.1), Value.long xreadLow, Value.long z9, Value.ref ri, Value.ref ro, Value.ref rw, Value.int (nI e9.2.2)]))]) hsu) hD
          have hPD : my_PD (dC, dI) vwCl A [(ri, Sum.inr (0, [Value.int (nI is.length), Value.ref ria])), (ria, Sum.inl (cI, rik, Sum.inl rif)), (co, Sum.inr (3, [Value.int xshift, Value.long (lN CD), Value.long (lN RR), Value.int (nI q), Value.int xcache, Value.int xpending, Value.long xlow, Value.long xrange, Value.long (lN e9.2.1), Value.long xreadLow, Value.long (lN (cbR (pbS is b (RR, CD, q)).1 (RR, CD, q) (pbS is b (RR, CD, q)).2).1), Value.ref ri, Value.ref ro, Value.ref rw, Value.int (nI e9.2.2)]))] H := ⟨hP, hD⟩
          have hP := hPD.1
          have hD := hPD.2
          have hsu : (lN e9.2.1 : Int64) = lN (cbR (pbS is b (RR, CD, q)).1 (RR, CD, q) (pbS is b (RR, CD, q)).2).2.1 := by rw [hcb]
          have hP := Eq.mp (congrArg (fun (z9 : Int64) => va_P (dC, dI) vwCl [(ri, Sum.inr (0, [Value.int (nI is.length), Value.ref ria])), (ria, Sum.inl (cI, rik, Sum.inl rif)), (co, Sum.inr (3, [Value.int xshift, Value.long (lN CD), Value.long (lN RR), Value.int (nI q), Value.int xcache, Value.int xpending, Value.long xlow, Value.long xrange, Value.long z9, Value.long xreadLow, Value.long (lN (cbR (pbS is b (RR, CD, q)).1 (RR, CD, q) (pbS is b (RR, CD, q)).2).1), Value.ref ri, Value.ref ro, Value.ref rw, Value.int (nI e9.2.2)]))] H) hsu) hP
          have hD := Eq.mp (congrArg (fun (z9 : Int64) => va_D A [(ri, Sum.inr (0, [Value.int (nI is.length), Value.ref ria])), (ria, Sum.inl (cI, rik, Sum.inl rif)), (co, Sum.inr (3, [Value.int xshift, Value.long (lN CD), Value.long (lN RR), Value.int (nI q), Value.int xcache, Value.int xpending, Value.long xlow, Value.long xrange, Value.long z9, Value.long xreadLow, Value.long (lN (cbR (pbS is b (RR, CD, q)).1 (RR, CD, q) (pbS is b (RR, CD, q)).2).1), Value.ref ri, Value.ref ro, Value.ref rw, Value.int (nI e9.2.2)]))]) hsu) hD
          have hPD : my_PD (dC, dI) vwCl A [(ri, Sum.inr (0, [Value.int (nI is.length), Value.ref ria])), (ria, Sum.inl (cI, rik, Sum.inl rif)), (co, Sum.inr (3, [Value.int xshift, Value.long (lN CD), Value.long (lN RR), Value.int (nI q), Value.int xcache, Value.int xpending, Value.long xlow, Value.long xrange, Value.long (lN (cbR (pbS is b (RR, CD, q)).1 (RR, CD, q) (pbS is b (RR, CD, q)).2).2.1), Value.long xreadLow, Value.long (lN (cbR (pbS is b (RR, CD, q)).1 (RR, CD, q) (pbS is b (RR, CD, q)).2).1), Value.ref ri, Value.ref ro, Value.ref rw, Value.int (nI e9.2.2)]))] H := ⟨hP, hD⟩
          have hP := hPD.1
          have hD := hPD.2
          have hsu : (nI e9.2.2 : Int32) = nI (cbR (pbS is b (RR, CD, q)).1 (RR, CD, q) (pbS is b (RR, CD, q)).2).2.2 := by rw [hcb]
          have hP := Eq.mp (congrArg (fun (z9 : Int32) => va_P (dC, dI) vwCl [(ri, Sum.inr (0, [Value.int (nI is.length), Value.ref ria])), (ria, Sum.inl (cI, rik, Sum.inl rif)), (co, Sum.inr (3, [Value.int xshift, Value.long (lN CD), Value.long (lN RR), Value.int (nI q), Value.int xcache, Value.int xpending, Value.long xlow, Value.long xrange, Value.long (lN (cbR (pbS is b (RR, CD, q)).1 (RR, CD, q) (pbS is b (RR, CD, q)).2).2.1), Value.long xreadLow, Value.long (lN (cbR (pbS is b (RR, CD, q)).1 (RR, CD, q) (pbS is b (RR, CD, q)).2).1), Value.ref ri, Value.ref ro, Value.ref rw, Value.int z9]))] H) hsu) hP
          have hD := Eq.mp (congrArg (fun (z9 : Int32) => va_D A [(ri, Sum.inr (0, [Value.int (nI is.length), Value.ref ria])), (ria, Sum.inl (cI, rik, Sum.inl rif)), (co, Sum.inr (3, [Value.int xshift, Value.long (lN CD), Value.long (lN RR), Value.int (nI q), Value.int xcache, Value.int xpending, Value.long xlow, Value.long xrange, Value.long (lN (cbR (pbS is b (RR, CD, q)).1 (RR, CD, q) (pbS is b (RR, CD, q)).2).2.1), Value.long xreadLow, Value.long (lN (cbR (pbS is b (RR, CD, q)).1 (RR, CD, q) (pbS is b (RR, CD, q)).2).1), Value.ref ri, Value.ref ro, Value.ref rw, Value.int z9]))]) hsu) hD
          have hPD : my_PD (dC, dI) vwCl A [(ri, Sum.inr (0, [Value.int (nI is.length), Value.ref ria])), (ria, Sum.inl (cI, rik, Sum.inl rif)), (co, Sum.inr (3, [Value.int xshift, Value.long (lN CD), Value.long (lN RR), Value.int (nI q), Value.int xcache, Value.int xpending, Value.long xlow, Value.long xrange, Value.long (lN (cbR (pbS is b (RR, CD, q)).1 (RR, CD, q) (pbS is b (RR, CD, q)).2).2.1), Value.long xreadLow, Value.long (lN (cbR (pbS is b (RR, CD, q)).1 (RR, CD, q) (pbS is b (RR, CD, q)).2).1), Value.ref ri, Value.ref ro, Value.ref rw, Value.int (nI (cbR (pbS is b (RR, CD, q)).1 (RR, CD, q) (pbS is b (RR, CD, q)).2).2.2)]))] H := ⟨hP, hD⟩
          have hP := hPD.1
          have hD := hPD.2
          exact my_iret (v := nI vv) hx hb hr (rfl) hlocks hQ hK hS (Nat.le_refl _) (Nat.le_refl _) ((lN CD), (lN RR), (nI q)) (by rw [hgs]; rfl) (hP.sub [2, 0, 1] rfl) (hD.sub [2, 0, 1] (by decide +kernel) rfl) d_Bits_nextValue_108
        · have hj2 : j < b := nI_lt' (by omega) c_2
          refine lv_aload_n hx hb d_Bits_nextValue_27 rfl (lv_at hl 2 rfl) ?_
          refine lv_dup hx hb d_Bits_nextValue_28 rfl ?_
          refine va_get (D := (dC, dI)) (ci := 3) (v := .long (lN e9.1)) (C := "RangeCoders$Bits") (T := T_Bits) (N := 15) hx hb hg in_Bits hown hK hP 2 rfl rfl 10 (by decide) (hg _ k98) (fun x9 h9 => u_same (hg _ k99) x9 h9) rfl d_Bits_nextValue_29 ?_
          refine lv_iconst (v := 1) hx hb d_Bits_nextValue_32 (by decide) ?_
          refine lv_lushr hx hb d_Bits_nextValue_33 rfl ?_
          refine lv_topl (fun v_3 ev_3 => ?_)
          have z9 : v_3 = lN (e9.1 / 2) := by rw [ev_3]; exact U_shr1 (by omega)
          subst z9
          refine va_put (D := (dC, dI)) (ci := 3) (v := .long (lN (e9.1 / 2))) (ty := .long) (C := "RangeCoders$Bits") (T := T_Bits) (N := 15) hx hb hg in_Bits t_Bits o_Bits n_Bits hown hK hP hD hS 2 rfl rfl 10 (by decide) (hg _ k98) (fun x9 h9 => u_same (hg _ k99) x9 h9) rfl (o_Bits 10 (by decide)) rfl rfl (Nat.le_of_ble_eq_true rfl) d_Bits_nextValue_34 (fun H locs hP hD hS => ?_)
          have hPD : my_PD (dC, dI) vwCl A [(ri, Sum.inr (0, [Value.int (nI is.length), Value.ref ria])), (ria, Sum.inl (cI, rik, Sum.inl rif)), (co, Sum.inr (3, [Value.int xshift, Value.long (lN CD), Value.long (lN RR), Value.int (nI q), Value.int xcache, Value.int xpending, Value.long xlow, Value.long xrange, Value.long (lN e9.2.1), Value.long xreadLow, Value.long (lN (e9.1 / 2)), Value.ref ri, Value.ref ro, Value.ref rw, Value.int (nI e9.2.2)]))] H := ⟨hP, hD⟩
          have hP := hPD.1
          have hD := hPD.2
          refine lv_aload_n hx hb d_Bits_nextValue_37 rfl (lv_at hl 2 rfl) ?_
          refine va_get (D := (dC, dI)) (ci := 3) (v := .long (lN e9.2.1)) (C := "RangeCoders$Bits") (T := T_Bits) (N := 15) hx hb hg in_Bits hown hK hP 2 rfl rfl 8 (by decide) (hg _ k88) (fun x9 h9 => u_same (hg _ k89) x9 h9) rfl d_Bits_nextValue_38 ?_
          refine lv_aload_n hx hb d_Bits_nextValue_41 rfl (lv_at hl 2 rfl) ?_
          refine va_get (D := (dC, dI)) (ci := 3) (v := .long (lN (e9.1 / 2))) (C := "RangeCoders$Bits") (T := T_Bits) (N := 15) hx hb hg in_Bits hown hK hP 2 rfl rfl 10 (by decide) (hg _ k98) (fun x9 h9 => u_same (hg _ k99) x9 h9) rfl d_Bits_nextValue_42 ?_
          refine W.lcmp hx hb d_Bits_nextValue_45 ?_
          refine lv_if_ge (tgt := 53) hx hb d_Bits_nextValue_46 (by decide) (fun c_4 => ?_) (fun c_4 => ?_)
          · rw [lg_cmp_ge] at c_4
            refine lv_iconst (v := 1) hx hb d_Bits_nextValue_53 (by decide) ?_
            have hlb : ¬ e9.2.1 < e9.1 / 2 := by have z := (L_le (by omega) (by omega)).mp c_4; omega
            have hbt9 : rbt (e9.1 / 2) e9.2.1 = 1 := rbt_1 hlb
            refine W.eq (g2 := F0 m 54 ls [Value.int (nI (rbt (e9.1 / 2) e9.2.1))]) (by rw [hbt9]; rfl) ?_
            refine lv_istore (lv' := [(4, Value.int (nI (rbt (e9.1 / 2) e9.2.1))), (3, Value.int (nI j)), (2, Value.int (nI vv)), (0, Value.ref co), (1, Value.int (nI b))]) hx hb d_Bits_nextValue_54 hl (by decide) rfl (fun ls hl => ?_)
            refine lv_aload_n hx hb d_Bits_nextValue_56 rfl (lv_at hl 3 rfl) ?_
            refine lv_dup hx hb d_Bits_nextValue_57 rfl ?_
            refine va_get (D := (dC, dI)) (ci := 3) (v := .long (lN e9.2.1)) (C := "RangeCoders$Bits") (T := T_Bits) (N := 15) hx hb hg in_Bits hown hK hP 2 rfl rfl 8 (by decide) (hg _ k88) (fun x9 h9 => u_same (hg _ k89) x9 h9) rfl d_Bits_nextValue_58 ?_
            refine lv_iload hx hb d_Bits_nextValue_61 (lv_at hl 0 rfl) ?_
            refine lv_i2l hx hb d_Bits_nextValue_63 rfl ?_
            refine lv_topl (fun v_5 ev_5 => ?_)
            have z9 : v_5 = lN (rbt (e9.1 / 2) e9.2.1) := by rw [ev_5]; exact nI_l (by omega)
            subst z9
            refine lv_aload_n hx hb d_Bits_nextValue_64 rfl (lv_at hl 3 rfl) ?_
            refine va_get (D := (dC, dI)) (ci := 3) (v := .long (lN (e9.1 / 2))) (C := "RangeCoders$Bits") (T := T_Bits) (N := 15) hx hb hg in_Bits hown hK hP 2 rfl rfl 10 (by decide) (hg _ k98) (fun x9 h9 => u_same (hg _ k99) x9 h9) rfl d_Bits_nextValue_65 ?_
            refine lv_lmul hx hb d_Bits_nextValue_68 ?_
            refine lv_topl (fun v_6 ev_6 => ?_)
            have z9 : v_6 = lN (rbt (e9.1 / 2) e9.2.1 * (e9.1 / 2)) := by rw [ev_6]; exact lN_mul _ _
            subst z9
            refine lv_lsub hx hb d_Bits_nextValue_69 ?_
            refine lv_topl (fun v_7 ev_7 => ?_)
            have z9 : v_7 = lN (crd e9) := by rw [ev_7]; exact crd_eq hJ3 hJ2
            subst z9
            refine va_put (D := (dC, dI)) (ci := 3) (v := .long (lN (crd e9))) (ty := .long) (C := "RangeCoders$Bits") (T := T_Bits) (N := 15) hx hb hg in_Bits t_Bits o_Bits n_Bits hown hK hP hD hS 2 rfl rfl 8 (by decide) (hg _ k88) (fun x9 h9 => u_same (hg _ k89) x9 h9) rfl (o_Bits 8 (by decide)) rfl rfl (Nat.le_of_ble_eq_true rfl) d_Bits_nextValue_70 (fun H locs hP hD hS => ?_)
            have hPD : my_PD (dC, dI) vwCl A [(ri, Sum.inr (0, [Value.int (nI is.length), Value.ref ria])), (ria, Sum.inl (cI, rik, Sum.inl rif)), (co, Sum.inr (3, [Value.int xshift, Value.long (lN CD), Value.long (lN RR), Value.int (nI q), Value.int xcache, Value.int xpending, Value.long xlow, Value.long xrange, Value.long (lN (crd e9)), Value.long xreadLow, Value.long (lN (e9.1 / 2)), Value.ref ri, Value.ref ro, Value.ref rw, Value.int (nI e9.2.2)]))] H := ⟨hP, hD⟩
            have hP := hPD.1
            have hD := hPD.2
            refine lv_aload_n hx hb d_Bits_nextValue_73 rfl (lv_at hl 3 rfl) ?_
            refine va_get (D := (dC, dI)) (ci := 3) (v := .long (lN (crd e9))) (C := "RangeCoders$Bits") (T := T_Bits) (N := 15) hx hb hg in_Bits hown hK hP 2 rfl rfl 8 (by decide) (hg _ k88) (fun x9 h9 => u_same (hg _ k89) x9 h9) rfl d_Bits_nextValue_74 ?_
            refine lv_aload_n hx hb d_Bits_nextValue_77 rfl (lv_at hl 3 rfl) ?_
            refine va_get (D := (dC, dI)) (ci := 3) (v := .long (lN (e9.1 / 2))) (C := "RangeCoders$Bits") (T := T_Bits) (N := 15) hx hb hg in_Bits hown hK hP 2 rfl rfl 10 (by decide) (hg _ k98) (fun x9 h9 => u_same (hg _ k99) x9 h9) rfl d_Bits_nextValue_78 ?_
            refine W.lcmp hx hb d_Bits_nextValue_81 ?_
            refine lv_if_lt (tgt := 90) hx hb d_Bits_nextValue_82 (by decide) (fun c_8 => ?_) (fun c_8 => ?_)
            · rw [lg_cmp_lt] at c_8
              have hok9 : crd e9 < e9.1 / 2 := (L_lt (by omega) (by omega)).mp c_8
              have hw9 := wr_inv (is := is) (r := (e9.1 / 2, crd e9, e9.2.2)) hoct (by show 0 < e9.1 / 2; omega) (by show e9.1 / 2 < _; omega) hcl
              refine lv_iconst (v := 2) hx hb d_Bits_nextValue_90 (by decide) ?_
              refine lv_iload_n hx hb d_Bits_nextValue_91 rfl (lv_at hl 2 rfl) ?_
              refine lv_imul hx hb d_Bits_nextValue_92 ?_
              refine lv_topi (fun v_9 ev_9 => ?_)
              refine lv_iload hx hb d_Bits_nextValue_93 (lv_at hl 0 rfl) ?_
              refine lv_iadd hx hb d_Bits_nextValue_95 ?_
              refine lv_topi (fun v_10 ev_10 => ?_)
              have z9 : v_10 = nI (2 * vv + rbt (e9.1 / 2) e9.2.1) := by subst_vars; rw [show (2 : Int32) * nI vv = nI (2 * vv) from pk_mul 2 vv]; exact nI_add _ _
              subst z9
              refine lv_istore_n (lv' := [(2, Value.int (nI (2 * vv + rbt (e9.1 / 2) e9.2.1))), (4, Value.int (nI (rbt (e9.1 / 2) e9.2.1))), (3, Value.int (nI j)), (0, Value.ref co), (1, Value.int (nI b))]) hx hb d_Bits_nextValue_96 rfl hl (by decide) rfl (fun ls hl => ?_)
              refine lv_aload_n hx hb d_Bits_nextValue_97 rfl (lv_at hl 3 rfl) ?_
              refine my_cv (wr := []) (va_runU (As := []) (rest := []) ⟨hx, hb, hml, hown, hts⟩ (f_Bits_widenReading l dC dI cI cM cO H.size co xshift (lN CD) (lN RR) (nI q) xcache xpending xlow xrange xreadLow ri ro rw ria rik rif is (e9.1 / 2) (crd e9) e9.2.2 (hri) (hGri) (hLri) (hoct) (by omega) (by omega) (hcl) (by omega)) (va_cwU 0 hts (my_gU k789 k790 k792 k793 k5 k794) rfl rfl rfl rfl (by decide +kernel) ⟨by rw [hR]; exact Nat.le_of_ble_eq_true rfl, by rw [hR]; exact Nat.le_of_ble_eq_true rfl⟩) (my_preV hK hN (hP.sub [2, 0, 1] rfl) (hD.sub [2, 0, 1] (by decide +kernel) rfl) 0 rfl rfl) rfl rfl hl.1 rfl (lv_room (Nat.le_of_ble_eq_true rfl)) d_Bits_nextValue_98 ⟨by rw [hR]; exact Nat.le_of_ble_eq_true rfl, by rw [hR]; exact Nat.le_of_ble_eq_true rfl⟩) hP hD hS hA [2, 0, 1] [] rfl rfl (by decide +kernel) (by decide +kernel) (fun u9 H locs hw_98 hP hD hS => ?_)
              have hPD : my_PD (dC, dI) vwCl A [(co, Sum.inr (3, [Value.int xshift, Value.long (lN CD), Value.long (lN RR), Value.int (nI q), Value.int xcache, Value.int xpending, Value.long xlow, Value.long xrange, Value.long (lN (wrS is ((e9.1 / 2), (crd e9), e9.2.2)).2.1), Value.long xreadLow, Value.long (lN (wrS is ((e9.1 / 2), (crd e9), e9.2.2)).1), Value.ref ri, Value.ref ro, Value.ref rw, Value.int (nI (wrS is ((e9.1 / 2), (crd e9), e9.2.2)).2.2)])), (ri, Sum.inr (0, [Value.int (nI is.length), Value.ref ria])), (ria, Sum.inl (cI, rik, Sum.inl rif))] H := ⟨hP, hD⟩
              have hP := hPD.1
              have hD := hPD.2
              obtain ⟨v_11, ev_11⟩ : ∃ y : Int32, y = (nI j) + (1) := ⟨_, rfl⟩
              refine lv_iinc (v := v_11) (lv' := [(3, Value.int v_11), (2, Value.int (nI (2 * vv + rbt (e9.1 / 2) e9.2.1))), (4, Value.int (nI (rbt (e9.1 / 2) e9.2.1))), (0, Value.ref co), (1, Value.int (nI b))]) hx hb d_Bits_nextValue_101 hl (k := 2) rfl (by rw [ev_11]; rfl) (by decide) rfl (fun ls hl => ?_)
              have z9 : v_11 = nI (j + 1) := by rw [ev_11]; exact nI_1 _
              subst z9
              refine lv_goto (tgt := 22) hx hb d_Bits_nextValue_104 (by decide) ?_
              exact ih9_22 _ (by first | omega | (omega)) (j + 1) (2 * vv + rbt (e9.1 / 2) e9.2.1) (wrS is (e9.1 / 2, crd e9, e9.2.2)) rfl (by omega) (by rw [hE9, show b - j = (b - (j + 1)) + 1 by omega, pbN, if_pos hok9]) (hw9.1) (by have z := hw9.2.1; show (wrS is (e9.1 / 2, crd e9, e9.2.2)).2.2 ≤ _; have z2 : ((e9.1 / 2, crd e9, e9.2.2) : RS).2.2 = e9.2.2 := rfl; omega) (by rw [Nat.pow_succ]; omega) H locs ls (hP.sub [1, 2, 0] rfl) (hD.sub [1, 2, 0] (by decide +kernel) rfl) hS (lv_sub hl [0, 1, 3, 4] rfl)
            · rw [lg_cmp_lt] at c_8
              have hbad9 : ¬ crd e9 < e9.1 / 2 := fun z => absurd ((L_lt (by omega) (by omega)).mpr z) c_8
              refine lv_aload_n hx hb d_Bits_nextValue_85 rfl (lv_at hl 3 rfl) ?_
              refine my_ci (wr := [(ri, Sum.inr (0, [Value.int (nI is.length), Value.ref ria])), (ria, Sum.inl (cI, rik, Sum.inl rif))]) (va_runV (As := []) (rest := []) ⟨hx, hb, hml, hown, hts⟩ (f_Bits_undone l dC dI cI cM cO H.size co xshift (lN CD) (lN RR) (nI q) xcache xpending xlow xrange (lN (crd e9)) xreadLow (lN (e9.1 / 2)) ri ro rw (nI e9.2.2)) (cwV 0 hts (my_gV k800 k802 ks15 k8 k803) rfl rfl rfl cu_Bits_undone_0 ⟨by rw [hR]; exact Nat.le_of_ble_eq_true rfl, by rw [hR]; exact Nat.le_of_ble_eq_true rfl⟩) (my_preV hK hN (hP.sub [2] rfl) (hD.sub [2] (by decide +kernel) rfl) 0 rfl rfl) rfl rfl hl.1 rfl (lv_room (Nat.le_of_ble_eq_true rfl)) d_Bits_nextValue_86 ⟨by rw [hR]; exact Nat.le_of_ble_eq_true rfl, by rw [hR]; exact Nat.le_of_ble_eq_true rfl⟩) hP hD hS hA [2] [0, 1] rfl rfl (by decide +kernel) (by decide +kernel) (fun r_86 u9 H locs hw_86 hP hD hS => ?_)
              have hr_86 : r_86 = -1 := hw_86
              have hPD : my_PD (dC, dI) vwCl A [(ri, Sum.inr (0, [Value.int (nI is.length), Value.ref ria])), (ria, Sum.inl (cI, rik, Sum.inl rif)), (co, Sum.inr (3, [Value.int xshift, Value.long (lN CD), Value.long (lN RR), Value.int (nI q), Value.int xcache, Value.int xpending, Value.long xlow, Value.long xrange, Value.long (lN CD), Value.long xreadLow, Value.long (lN RR), Value.ref ri, Value.ref ro, Value.ref rw, Value.int (nI q)]))] H := ⟨hP, hD⟩
              have hP := hPD.1
              have hD := hPD.2
              have hgs : (pbS is b (RR, CD, q)).1 = none := by rw [hE9, show b - j = (b - (j + 1)) + 1 by omega, pbN, if_neg hbad9]
              have hcb : cbR (pbS is b (RR, CD, q)).1 (RR, CD, q) (pbS is b (RR, CD, q)).2 = (RR, CD, q) := by rw [hgs]; rfl
              have hsu : ((lN RR) : Int64) = lN (cbR (pbS is b (RR, CD, q)).1 (RR, CD, q) (pbS is b (RR, CD, q)).2).1 := by rw [hcb]
              have hP := Eq.mp (congrArg (fun (z9 : Int64) => va_P (dC, dI) vwCl [(ri, Sum.inr (0, [Value.int (nI is.length), Value.ref ria])), (ria, Sum.inl (cI, rik, Sum.inl rif)), (co, Sum.inr (3, [Value.int xshift, Value.long (lN CD), Value.long (lN RR), Value.int (nI q), Value.int xcache, Value.int xpending, Value.long xlow, Value.long xrange, Value.long (lN CD), Value.long xreadLow, Value.long z9, Value.ref ri, Value.ref ro, Value.ref rw, Value.int (nI q)]))] H) hsu) hP
              have hD := Eq.mp (congrArg (fun (z9 : Int64) => va_D A [(ri, Sum.inr (0, [Value.int (nI is.length), Value.ref ria])), (ria, Sum.inl (cI, rik, Sum.inl rif)), (co, Sum.inr (3, [Value.int xshift, Value.long (lN CD), Value.long (lN RR), Value.int (nI q), Value.int xcache, Value.int xpending, Value.long xlow, Value.long xrange, Value.long (lN CD), Value.long xreadLow, Value.long z9, Value.ref ri, Value.ref ro, Value.ref rw, Value.int (nI q)]))]) hsu) hD
              have hPD : my_PD (dC, dI) vwCl A [(ri, Sum.inr (0, [Value.int (nI is.length), Value.ref ria])), (ria, Sum.inl (cI, rik, Sum.inl rif)), (co, Sum.inr (3, [Value.int xshift, Value.long (lN CD), Value.long (lN RR), Value.int (nI q), Value.int xcache, Value.int xpending, Value.long xlow, Value.long xrange, Value.long (lN CD), Value.long xreadLow, Value.long (lN (cbR (pbS is b (RR, CD, q)).1 (RR, CD, q) (pbS is b (RR, CD, q)).2).1), Value.ref ri, Value.ref ro, Value.ref rw, Value.int (nI q)]))] H := ⟨hP, hD⟩
              have hP := hPD.1
              have hD := hPD.2
              have hsu : ((lN CD) : Int64) = lN (cbR (pbS is b (RR, CD, q)).1 (RR, CD, q) (pbS is b (RR, CD, q)).2).2.1 := by rw [hcb]
              have hP := Eq.mp (congrArg (fun (z9 : Int64) => va_P (dC, dI) vwCl [(ri, Sum.inr (0, [Value.int (nI is.length), Value.ref ria])), (ria, Sum.inl (cI, rik, Sum.inl rif)), (co, Sum.inr (3, [Value.int xshift, Value.long (lN CD), Value.long (lN RR), Value.int (nI q), Value.int xcache, Value.int xpending, Value.long xlow, Value.long xrange, Value.long z9, Value.long xreadLow, Value.long (lN (cbR (pbS is b (RR, CD, q)).1 (RR, CD, q) (pbS is b (RR, CD, q)).2).1), Value.ref ri, Value.ref ro, Value.ref rw, Value.int (nI q)]))] H) hsu) hP
              have hD := Eq.mp (congrArg (fun (z9 : Int64) => va_D A [(ri, Sum.inr (0, [Value.int (nI is.length), Value.ref ria])), (ria, Sum.inl (cI, rik, Sum.inl rif)), (co, Sum.inr (3, [Value.int xshift, Value.long (lN CD), Value.long (lN RR), Value.int (nI q), Value.int xcache, Value.int xpending, Value.long xlow, Value.long xrange, Value.long z9, Value.long xreadLow, Value.long (lN (cbR (pbS is b (RR, CD, q)).1 (RR, CD, q) (pbS is b (RR, CD, q)).2).1), Value.ref ri, Value.ref ro, Value.ref rw, Value.int (nI q)]))]) hsu) hD
              have hPD : my_PD (dC, dI) vwCl A [(ri, Sum.inr (0, [Value.int (nI is.length), Value.ref ria])), (ria, Sum.inl (cI, rik, Sum.inl rif)), (co, Sum.inr (3, [Value.int xshift, Value.long (lN CD), Value.long (lN RR), Value.int (nI q), Value.int xcache, Value.int xpending, Value.long xlow, Value.long xrange, Value.long (lN (cbR (pbS is b (RR, CD, q)).1 (RR, CD, q) (pbS is b (RR, CD, q)).2).2.1), Value.long xreadLow, Value.long (lN (cbR (pbS is b (RR, CD, q)).1 (RR, CD, q) (pbS is b (RR, CD, q)).2).1), Value.ref ri, Value.ref ro, Value.ref rw, Value.int (nI q)]))] H := ⟨hP, hD⟩
              have hP := hPD.1
              have hD := hPD.2
              have hsu : ((nI q) : Int32) = nI (cbR (pbS is b (RR, CD, q)).1 (RR, CD, q) (pbS is b (RR, CD, q)).2).2.2 := by rw [hcb]
              have hP := Eq.mp (congrArg (fun (z9 : Int32) => va_P (dC, dI) vwCl [(ri, Sum.inr (0, [Value.int (nI is.length), Value.ref ria])), (ria, Sum.inl (cI, rik, Sum.inl rif)), (co, Sum.inr (3, [Value.int xshift, Value.long (lN CD), Value.long (lN RR), Value.int (nI q), Value.int xcache, Value.int xpending, Value.long xlow, Value.long xrange, Value.long (lN (cbR (pbS is b (RR, CD, q)).1 (RR, CD, q) (pbS is b (RR, CD, q)).2).2.1), Value.long xreadLow, Value.long (lN (cbR (pbS is b (RR, CD, q)).1 (RR, CD, q) (pbS is b (RR, CD, q)).2).1), Value.ref ri, Value.ref ro, Value.ref rw, Value.int z9]))] H) hsu) hP
              have hD := Eq.mp (congrArg (fun (z9 : Int32) => va_D A [(ri, Sum.inr (0, [Value.int (nI is.length), Value.ref ria])), (ria, Sum.inl (cI, rik, Sum.inl rif)), (co, Sum.inr (3, [Value.int xshift, Value.long (lN CD), Value.long (lN RR), Value.int (nI q), Value.int xcache, Value.int xpending, Value.long xlow, Value.long xrange, Value.long (lN (cbR (pbS is b (RR, CD, q)).1 (RR, CD, q) (pbS is b (RR, CD, q)).2).2.1), Value.long xreadLow, Value.long (lN (cbR (pbS is b (RR, CD, q)).1 (RR, CD, q) (pbS is b (RR, CD, q)).2).1), Value.ref ri, Value.ref ro, Value.ref rw, Value.int z9]))]) hsu) hD
              have hPD : my_PD (dC, dI) vwCl A [(ri, Sum.inr (0, [Value.int (nI is.length), Value.ref ria])), (ria, Sum.inl (cI, rik, Sum.inl rif)), (co, Sum.inr (3, [Value.int xshift, Value.long (lN CD), Value.long (lN RR), Value.int (nI q), Value.int xcache, Value.int xpending, Value.long xlow, Value.long xrange, Value.long (lN (cbR (pbS is b (RR, CD, q)).1 (RR, CD, q) (pbS is b (RR, CD, q)).2).2.1), Value.long xreadLow, Value.long (lN (cbR (pbS is b (RR, CD, q)).1 (RR, CD, q) (pbS is b (RR, CD, q)).2).1), Value.ref ri, Value.ref ro, Value.ref rw, Value.int (nI (cbR (pbS is b (RR, CD, q)).1 (RR, CD, q) (pbS is b (RR, CD, q)).2).2.2)]))] H := ⟨hP, hD⟩
              have hP := hPD.1
              have hD := hPD.2
              exact my_iret (v := r_86) hx hb hr (rfl) hlocks hQ hK hS (Nat.le_refl _) (Nat.le_refl _) ((lN CD), (lN RR), (nI q)) (by rw [hgs]; exact hr_86) (hP.sub [2, 0, 1] rfl) (hD.sub [2, 0, 1] (by decide +kernel) rfl) d_Bits_nextValue_89
          · rw [lg_cmp_ge] at c_4
            refine lv_iconst (v := 0) hx hb d_Bits_nextValue_49 (by decide) ?_
            refine lv_goto (tgt := 54) hx hb d_Bits_nextValue_50 (by decide) ?_
            have hlb : e9.2.1 < e9.1 / 2 := by rcases Nat.lt_or_ge e9.2.1 (e9.1 / 2) with z | z; exact z; exact absurd ((L_le (by omega) (by omega)).mpr z) c_4
            have hbt9 : rbt (e9.1 / 2) e9.2.1 = 0 := rbt_0 hlb
            refine W.eq (g2 := F0 m 54 ls [Value.int (nI (rbt (e9.1 / 2) e9.2.1))]) (by rw [hbt9]; rfl) ?_
            refine lv_istore (lv' := [(4, Value.int (nI (rbt (e9.1 / 2) e9.2.1))), (3, Value.int (nI j)), (2, Value.int (nI vv)), (0, Value.ref co), (1, Value.int (nI b))]) hx hb d_Bits_nextValue_54 hl (by decide) rfl (fun ls hl => ?_)
            refine lv_aload_n hx hb d_Bits_nextValue_56 rfl (lv_at hl 3 rfl) ?_
            refine lv_dup hx hb d_Bits_nextValue_57 rfl ?_
            refine va_get (D := (dC, dI)) (ci := 3) (v := .long (lN e9.2.1)) (C := "RangeCoders$Bits") (T := T_Bits) (N := 15) hx hb hg in_Bits hown hK hP 2 rfl rfl 8 (by decide) (hg _ k88) (fun x9 h9 => u_same (hg _ k89) x9 h9) rfl d_Bits_nextValue_58 ?_
            refine lv_iload hx hb d_Bits_nextValue_61 (lv_at hl 0 rfl) ?_
            refine lv_i2l hx hb d_Bits_nextValue_63 rfl ?_
            refine lv_topl (fun v_12 ev_12 => ?_)
            have z9 : v_12 = lN (rbt (e9.1 / 2) e9.2.1) := by rw [ev_12]; exact nI_l (by omega)
            subst z9
            refine lv_aload_n hx hb d_Bits_nextValue_64 rfl (lv_at hl 3 rfl) ?_
            refine va_get (D := (dC, dI)) (ci := 3) (v := .long (lN (e9.1 / 2))) (C := "RangeCoders$Bits") (T := T_Bits) (N := 15) hx hb hg in_Bits hown hK hP 2 rfl rfl 10 (by decide) (hg _ k98) (fun x9 h9 => u_same (hg _ k99) x9 h9) rfl d_Bits_nextValue_65 ?_
            refine lv_lmul hx hb d_Bits_nextValue_68 ?_
            refine lv_topl (fun v_13 ev_13 => ?_)
            have z9 : v_13 = lN (rbt (e9.1 / 2) e9.2.1 * (e9.1 / 2)) := by rw [ev_13]; exact lN_mul _ _
            subst z9
            refine lv_lsub hx hb d_Bits_nextValue_69 ?_
            refine lv_topl (fun v_14 ev_14 => ?_)
            have z9 : v_14 = lN (crd e9) := by rw [ev_14]; exact crd_eq hJ3 hJ2
            subst z9
            refine va_put (D := (dC, dI)) (ci := 3) (v := .long (lN (crd e9))) (ty := .long) (C := "RangeCoders$Bits") (T := T_Bits) (N := 15) hx hb hg in_Bits t_Bits o_Bits n_Bits hown hK hP hD hS 2 rfl rfl 8 (by decide) (hg _ k88) (fun x9 h9 => u_same (hg _ k89) x9 h9) rfl (o_Bits 8 (by decide)) rfl rfl (Nat.le_of_ble_eq_true rfl) d_Bits_nextValue_70 (fun H locs hP hD hS => ?_)
            have hPD : my_PD (dC, dI) vwCl A [(ri, Sum.inr (0, [Value.int (nI is.length), Value.ref ria])), (ria, Sum.inl (cI, rik, Sum.inl rif)), (co, Sum.inr (3, [Value.int xshift, Value.long (lN CD), Value.long (lN RR), Value.int (nI q), Value.int xcache, Value.int xpending, Value.long xlow, Value.long xrange, Value.long (lN (crd e9)), Value.long xreadLow, Value.long (lN (e9.1 / 2)), Value.ref ri, Value.ref ro, Value.ref rw, Value.int (nI e9.2.2)]))] H := ⟨hP, hD⟩
            have hP := hPD.1
            have hD := hPD.2
            refine lv_aload_n hx hb d_Bits_nextValue_73 rfl (lv_at hl 3 rfl) ?_
            refine va_get (D := (dC, dI)) (ci := 3) (v := .long (lN (crd e9))) (C := "RangeCoders$Bits") (T := T_Bits) (N := 15) hx hb hg in_Bits hown hK hP 2 rfl rfl 8 (by decide) (hg _ k88) (fun x9 h9 => u_same (hg _ k89) x9 h9) rfl d_Bits_nextValue_74 ?_
            refine lv_aload_n hx hb d_Bits_nextValue_77 rfl (lv_at hl 3 rfl) ?_
            refine va_get (D := (dC, dI)) (ci := 3) (v := .long (lN (e9.1 / 2))) (C := "RangeCoders$Bits") (T := T_Bits) (N := 15) hx hb hg in_Bits hown hK hP 2 rfl rfl 10 (by decide) (hg _ k98) (fun x9 h9 => u_same (hg _ k99) x9 h9) rfl d_Bits_nextValue_78 ?_
            refine W.lcmp hx hb d_Bits_nextValue_81 ?_
            refine lv_if_lt (tgt := 90) hx hb d_Bits_nextValue_82 (by decide) (fun c_15 => ?_) (fun c_15 => ?_)
            · rw [lg_cmp_lt] at c_15
              have hok9 : crd e9 < e9.1 / 2 := (L_lt (by omega) (by omega)).mp c_15
              have hw9 := wr_inv (is := is) (r := (e9.1 / 2, crd e9, e9.2.2)) hoct (by show 0 < e9.1 / 2; omega) (by show e9.1 / 2 < _; omega) hcl
              refine lv_iconst (v := 2) hx hb d_Bits_nextValue_90 (by decide) ?_
              refine lv_iload_n hx hb d_Bits_nextValue_91 rfl (lv_at hl 2 rfl) ?_
              refine lv_imul hx hb d_Bits_nextValue_92 ?_
              refine lv_topi (fun v_16 ev_16 => ?_)
              refine lv_iload hx hb d_Bits_nextValue_93 (lv_at hl 0 rfl) ?_
              refine lv_iadd hx hb d_Bits_nextValue_95 ?_
              refine lv_topi (fun v_17 ev_17 => ?_)
              have z9 : v_17 = nI (2 * vv + rbt (e9.1 / 2) e9.2.1) := by subst_vars; rw [show (2 : Int32) * nI vv = nI (2 * vv) from pk_mul 2 vv]; exact nI_add _ _
              subst z9
              refine lv_istore_n (lv' := [(2, Value.int (nI (2 * vv + rbt (e9.1 / 2) e9.2.1))), (4, Value.int (nI (rbt (e9.1 / 2) e9.2.1))), (3, Value.int (nI j)), (0, Value.ref co), (1, Value.int (nI b))]) hx hb d_Bits_nextValue_96 rfl hl (by decide) rfl (fun ls hl => ?_)
              refine lv_aload_n hx hb d_Bits_nextValue_97 rfl (lv_at hl 3 rfl) ?_
              refine my_cv (wr := []) (va_runU (As := []) (rest := []) ⟨hx, hb, hml, hown, hts⟩ (f_Bits_widenReading l dC dI cI cM cO H.size co xshift (lN CD) (lN RR) (nI q) xcache xpending xlow xrange xreadLow ri ro rw ria rik rif is (e9.1 / 2) (crd e9) e9.2.2 (hri) (hGri) (hLri) (hoct) (by omega) (by omega) (hcl) (by omega)) (va_cwU 0 hts (my_gU k789 k790 k792 k793 k5 k794) rfl rfl rfl rfl (by decide +kernel) ⟨by rw [hR]; exact Nat.le_of_ble_eq_true rfl, by rw [hR]; exact Nat.le_of_ble_eq_true rfl⟩) (my_preV hK hN (hP.sub [2, 0, 1] rfl) (hD.sub [2, 0, 1] (by decide +kernel) rfl) 0 rfl rfl) rfl rfl hl.1 rfl (lv_room (Nat.le_of_ble_eq_true rfl)) d_Bits_nextValue_98 ⟨by rw [hR]; exact Nat.le_of_ble_eq_true rfl, by rw [hR]; exact Nat.le_of_ble_eq_true rfl⟩) hP hD hS hA [2, 0, 1] [] rfl rfl (by decide +kernel) (by decide +kernel) (fun u9 H locs hw_98 hP hD hS => ?_)
              have hPD : my_PD (dC, dI) vwCl A [(co, Sum.inr (3, [Value.int xshift, Value.long (lN CD), Value.long (lN RR), Value.int (nI q), Value.int xcache, Value.int xpending, Value.long xlow, Value.long xrange, Value.long (lN (wrS is ((e9.1 / 2), (crd e9), e9.2.2)).2.1), Value.long xreadLow, Value.long (lN (wrS is ((e9.1 / 2), (crd e9), e9.2.2)).1), Value.ref ri, Value.ref ro, Value.ref rw, Value.int (nI (wrS is ((e9.1 / 2), (crd e9), e9.2.2)).2.2)])), (ri, Sum.inr (0, [Value.int (nI is.length), Value.ref ria])), (ria, Sum.inl (cI, rik, Sum.inl rif))] H := ⟨hP, hD⟩
              have hP := hPD.1
              have hD := hPD.2
              obtain ⟨v_18, ev_18⟩ : ∃ y : Int32, y = (nI j) + (1) := ⟨_, rfl⟩
              refine lv_iinc (v := v_18) (lv' := [(3, Value.int v_18), (2, Value.int (nI (2 * vv + rbt (e9.1 / 2) e9.2.1))), (4, Value.int (nI (rbt (e9.1 / 2) e9.2.1))), (0, Value.ref co), (1, Value.int (nI b))]) hx hb d_Bits_nextValue_101 hl (k := 2) rfl (by rw [ev_18]; rfl) (by decide) rfl (fun ls hl => ?_)
              have z9 : v_18 = nI (j + 1) := by rw [ev_18]; exact nI_1 _
              subst z9
              refine lv_goto (tgt := 22) hx hb d_Bits_nextValue_104 (by decide) ?_
              exact ih9_22 _ (by first | omega | (omega)) (j + 1) (2 * vv + rbt (e9.1 / 2) e9.2.1) (wrS is (e9.1 / 2, crd e9, e9.2.2)) rfl (by omega) (by rw [hE9, show b - j = (b - (j + 1)) + 1 by omega, pbN, if_pos hok9]) (hw9.1) (by have z := hw9.2.1; show (wrS is (e9.1 / 2, crd e9, e9.2.2)).2.2 ≤ _; have z2 : ((e9.1 / 2, crd e9, e9.2.2) : RS).2.2 = e9.2.2 := rfl; omega) (by rw [Nat.pow_succ]; omega) H locs ls (hP.sub [1, 2, 0] rfl) (hD.sub [1, 2, 0] (by decide +kernel) rfl) hS (lv_sub hl [0, 1, 3, 4] rfl)
            · rw [lg_cmp_lt] at c_15
              have hbad9 : ¬ crd e9 < e9.1 / 2 := fun z => absurd ((L_lt (by omega) (by omega)).mpr z) c_15
              refine lv_aload_n hx hb d_Bits_nextValue_85 rfl (lv_at hl 3 rfl) ?_
              refine my_ci (wr := [(ri, Sum.inr (0, [Value.int (nI is.length), Value.ref ria])), (ria, Sum.inl (cI, rik, Sum.inl rif))]) (va_runV (As := []) (rest := []) ⟨hx, hb, hml, hown, hts⟩ (f_Bits_undone l dC dI cI cM cO H.size co xshift (lN CD) (lN RR) (nI q) xcache xpending xlow xrange (lN (crd e9)) xreadLow (lN (e9.1 / 2)) ri ro rw (nI e9.2.2)) (cwV 0 hts (my_gV k800 k802 ks15 k8 k803) rfl rfl rfl cu_Bits_undone_0 ⟨by rw [hR]; exact Nat.le_of_ble_eq_true rfl, by rw [hR]; exact Nat.le_of_ble_eq_true rfl⟩) (my_preV hK hN (hP.sub [2] rfl) (hD.sub [2] (by decide +kernel) rfl) 0 rfl rfl) rfl rfl hl.1 rfl (lv_room (Nat.le_of_ble_eq_true rfl)) d_Bits_nextValue_86 ⟨by rw [hR]; exact Nat.le_of_ble_eq_true rfl, by rw [hR]; exact Nat.le_of_ble_eq_true rfl⟩) hP hD hS hA [2] [0, 1] rfl rfl (by decide +kernel) (by decide +kernel) (fun r_86 u9 H locs hw_86 hP hD hS => ?_)
              have hr_86 : r_86 = -1 := hw_86
              have hPD : my_PD (dC, dI) vwCl A [(ri, Sum.inr (0, [Value.int (nI is.length), Value.ref ria])), (ria, Sum.inl (cI, rik, Sum.inl rif)), (co, Sum.inr (3, [Value.int xshift, Value.long (lN CD), Value.long (lN RR), Value.int (nI q), Value.int xcache, Value.int xpending, Value.long xlow, Value.long xrange, Value.long (lN CD), Value.long xreadLow, Value.long (lN RR), Value.ref ri, Value.ref ro, Value.ref rw, Value.int (nI q)]))] H := ⟨hP, hD⟩
              have hP := hPD.1
              have hD := hPD.2
              have hgs : (pbS is b (RR, CD, q)).1 = none := by rw [hE9, show b - j = (b - (j + 1)) + 1 by omega, pbN, if_neg hbad9]
              have hcb : cbR (pbS is b (RR, CD, q)).1 (RR, CD, q) (pbS is b (RR, CD, q)).2 = (RR, CD, q) := by rw [hgs]; rfl
              have hsu : ((lN RR) : Int64) = lN (cbR (pbS is b (RR, CD, q)).1 (RR, CD, q) (pbS is b (RR, CD, q)).2).1 := by rw [hcb]
              have hP := Eq.mp (congrArg (fun (z9 : Int64) => va_P (dC, dI) vwCl [(ri, Sum.inr (0, [Value.int (nI is.length), Value.ref ria])), (ria, Sum.inl (cI, rik, Sum.inl rif)), (co, Sum.inr (3, [Value.int xshift, Value.long (lN CD), Value.long (lN RR), Value.int (nI q), Value.int xcache, Value.int xpending, Value.long xlow, Value.long xrange, Value.long (lN CD), Value.long xreadLow, Value.long z9, Value.ref ri, Value.ref ro, Value.ref rw, Value.int (nI q)]))] H) hsu) hP
              have hD := Eq.mp (congrArg (fun (z9 : Int64) => va_D A [(ri, Sum.inr (0, [Value.int (nI is.length), Value.ref ria])), (ria, Sum.inl (cI, rik, Sum.inl rif)), (co, Sum.inr (3, [Value.int xshift, Value.long (lN CD), Value.long (lN RR), Value.int (nI q), Value.int xcache, Value.int xpending, Value.long xlow, Value.long xrange, Value.long (lN CD), Value.long xreadLow, Value.long z9, Value.ref ri, Value.ref ro, Value.ref rw, Value.int (nI q)]))]) hsu) hD
              have hPD : my_PD (dC, dI) vwCl A [(ri, Sum.inr (0, [Value.int (nI is.length), Value.ref ria])), (ria, Sum.inl (cI, rik, Sum.inl rif)), (co, Sum.inr (3, [Value.int xshift, Value.long (lN CD), Value.long (lN RR), Value.int (nI q), Value.int xcache, Value.int xpending, Value.long xlow, Value.long xrange, Value.long (lN CD), Value.long xreadLow, Value.long (lN (cbR (pbS is b (RR, CD, q)).1 (RR, CD, q) (pbS is b (RR, CD, q)).2).1), Value.ref ri, Value.ref ro, Value.ref rw, Value.int (nI q)]))] H := ⟨hP, hD⟩
              have hP := hPD.1
              have hD := hPD.2
              have hsu : ((lN CD) : Int64) = lN (cbR (pbS is b (RR, CD, q)).1 (RR, CD, q) (pbS is b (RR, CD, q)).2).2.1 := by rw [hcb]
              have hP := Eq.mp (congrArg (fun (z9 : Int64) => va_P (dC, dI) vwCl [(ri, Sum.inr (0, [Value.int (nI is.length), Value.ref ria])), (ria, Sum.inl (cI, rik, Sum.inl rif)), (co, Sum.inr (3, [Value.int xshift, Value.long (lN CD), Value.long (lN RR), Value.int (nI q), Value.int xcache, Value.int xpending, Value.long xlow, Value.long xrange, Value.long z9, Value.long xreadLow, Value.long (lN (cbR (pbS is b (RR, CD, q)).1 (RR, CD, q) (pbS is b (RR, CD, q)).2).1), Value.ref ri, Value.ref ro, Value.ref rw, Value.int (nI q)]))] H) hsu) hP
              have hD := Eq.mp (congrArg (fun (z9 : Int64) => va_D A [(ri, Sum.inr (0, [Value.int (nI is.length), Value.ref ria])), (ria, Sum.inl (cI, rik, Sum.inl rif)), (co, Sum.inr (3, [Value.int xshift, Value.long (lN CD), Value.long (lN RR), Value.int (nI q), Value.int xcache, Value.int xpending, Value.long xlow, Value.long xrange, Value.long z9, Value.long xreadLow, Value.long (lN (cbR (pbS is b (RR, CD, q)).1 (RR, CD, q) (pbS is b (RR, CD, q)).2).1), Value.ref ri, Value.ref ro, Value.ref rw, Value.int (nI q)]))]) hsu) hD
              have hPD : my_PD (dC, dI) vwCl A [(ri, Sum.inr (0, [Value.int (nI is.length), Value.ref ria])), (ria, Sum.inl (cI, rik, Sum.inl rif)), (co, Sum.inr (3, [Value.int xshift, Value.long (lN CD), Value.long (lN RR), Value.int (nI q), Value.int xcache, Value.int xpending, Value.long xlow, Value.long xrange, Value.long (lN (cbR (pbS is b (RR, CD, q)).1 (RR, CD, q) (pbS is b (RR, CD, q)).2).2.1), Value.long xreadLow, Value.long (lN (cbR (pbS is b (RR, CD, q)).1 (RR, CD, q) (pbS is b (RR, CD, q)).2).1), Value.ref ri, Value.ref ro, Value.ref rw, Value.int (nI q)]))] H := ⟨hP, hD⟩
              have hP := hPD.1
              have hD := hPD.2
              have hsu : ((nI q) : Int32) = nI (cbR (pbS is b (RR, CD, q)).1 (RR, CD, q) (pbS is b (RR, CD, q)).2).2.2 := by rw [hcb]
              have hP := Eq.mp (congrArg (fun (z9 : Int32) => va_P (dC, dI) vwCl [(ri, Sum.inr (0, [Value.int (nI is.length), Value.ref ria])), (ria, Sum.inl (cI, rik, Sum.inl rif)), (co, Sum.inr (3, [Value.int xshift, Value.long (lN CD), Value.long (lN RR), Value.int (nI q), Value.int xcache, Value.int xpending, Value.long xlow, Value.long xrange, Value.long (lN (cbR (pbS is b (RR, CD, q)).1 (RR, CD, q) (pbS is b (RR, CD, q)).2).2.1), Value.long xreadLow, Value.long (lN (cbR (pbS is b (RR, CD, q)).1 (RR, CD, q) (pbS is b (RR, CD, q)).2).1), Value.ref ri, Value.ref ro, Value.ref rw, Value.int z9]))] H) hsu) hP
              have hD := Eq.mp (congrArg (fun (z9 : Int32) => va_D A [(ri, Sum.inr (0, [Value.int (nI is.length), Value.ref ria])), (ria, Sum.inl (cI, rik, Sum.inl rif)), (co, Sum.inr (3, [Value.int xshift, Value.long (lN CD), Value.long (lN RR), Value.int (nI q), Value.int xcache, Value.int xpending, Value.long xlow, Value.long xrange, Value.long (lN (cbR (pbS is b (RR, CD, q)).1 (RR, CD, q) (pbS is b (RR, CD, q)).2).2.1), Value.long xreadLow, Value.long (lN (cbR (pbS is b (RR, CD, q)).1 (RR, CD, q) (pbS is b (RR, CD, q)).2).1), Value.ref ri, Value.ref ro, Value.ref rw, Value.int z9]))]) hsu) hD
              have hPD : my_PD (dC, dI) vwCl A [(ri, Sum.inr (0, [Value.int (nI is.length), Value.ref ria])), (ria, Sum.inl (cI, rik, Sum.inl rif)), (co, Sum.inr (3, [Value.int xshift, Value.long (lN CD), Value.long (lN RR), Value.int (nI q), Value.int xcache, Value.int xpending, Value.long xlow, Value.long xrange, Value.long (lN (cbR (pbS is b (RR, CD, q)).1 (RR, CD, q) (pbS is b (RR, CD, q)).2).2.1), Value.long xreadLow, Value.long (lN (cbR (pbS is b (RR, CD, q)).1 (RR, CD, q) (pbS is b (RR, CD, q)).2).1), Value.ref ri, Value.ref ro, Value.ref rw, Value.int (nI (cbR (pbS is b (RR, CD, q)).1 (RR, CD, q) (pbS is b (RR, CD, q)).2).2.2)]))] H := ⟨hP, hD⟩
              have hP := hPD.1
              have hD := hPD.2
              exact my_iret (v := r_86) hx hb hr (rfl) hlocks hQ hK hS (Nat.le_refl _) (Nat.le_refl _) ((lN CD), (lN RR), (nI q)) (by rw [hgs]; exact hr_86) (hP.sub [2, 0, 1] rfl) (hD.sub [2, 0, 1] (by decide +kernel) rfl) d_Bits_nextValue_89
    exact J_22 _ (0 : Nat) (0 : Nat) (RR, CD, q) rfl (Nat.zero_le _) (by unfold pbS; rw [if_pos (show CD < RR from hlt0)]; rfl) (hI) (Nat.le_refl _) (by decide) H locs ls (hP.sub [0, 1, 2] rfl) (hD.sub [0, 1, 2] (by decide +kernel) rfl) hS (lv_sub hl [0, 1, 2, 3] rfl)
  · rw [lg_cmp_lt] at c_1
    refine lv_iconst (v := (-1)) hx hb d_Bits_nextValue_12 (by decide) ?_
    have hgs : pbS is b (RR, CD, q) = (none, (RR, CD, q)) := by unfold pbS; rw [if_neg (by show ¬ CD < RR; intro z; exact absurd ((L_lt (by omega) (by omega)).mpr z) c_1)]
    have hcb : cbR (pbS is b (RR, CD, q)).1 (RR, CD, q) (pbS is b (RR, CD, q)).2 = (RR, CD, q) := by rw [hgs]; rfl
    have hsu : (lN RR : Int64) = lN (cbR (pbS is b (RR, CD, q)).1 (RR, CD, q) (pbS is b (RR, CD, q)).2).1 := by rw [hcb]
    have hP := Eq.mp (congrArg (fun (z9 : Int64) => va_P (dC, dI) vwCl [(co, Sum.inr (3, [Value.int xshift, Value.long xkeptCode, Value.long xkeptRange, Value.int xkeptAsked, Value.int xcache, Value.int xpending, Value.long xlow, Value.long xrange, Value.long (lN CD), Value.long xreadLow, Value.long z9, Value.ref ri, Value.ref ro, Value.ref rw, Value.int (nI q)])), (ri, Sum.inr (0, [Value.int (nI is.length), Value.ref ria])), (ria, Sum.inl (cI, rik, Sum.inl rif))] H) hsu) hP
    have hD := Eq.mp (congrArg (fun (z9 : Int64) => va_D A [(co, Sum.inr (3, [Value.int xshift, Value.long xkeptCode, Value.long xkeptRange, Value.int xkeptAsked, Value.int xcache, Value.int xpending, Value.long xlow, Value.long xrange, Value.long (lN CD), Value.long xreadLow, Value.long z9, Value.ref ri, Value.ref ro, Value.ref rw, Value.int (nI q)])), (ri, Sum.inr (0, [Value.int (nI is.length), Value.ref ria])), (ria, Sum.inl (cI, rik, Sum.inl rif))]) hsu) hD
    have hPD : my_PD (dC, dI) vwCl A [(co, Sum.inr (3, [Value.int xshift, Value.long xkeptCode, Value.long xkeptRange, Value.int xkeptAsked, Value.int xcache, Value.int xpending, Value.long xlow, Value.long xrange, Value.long (lN CD), Value.long xreadLow, Value.long (lN (cbR (pbS is b (RR, CD, q)).1 (RR, CD, q) (pbS is b (RR, CD, q)).2).1), Value.ref ri, Value.ref ro, Value.ref rw, Value.int (nI q)])), (ri, Sum.inr (0, [Value.int (nI is.length), Value.ref ria])), (ria, Sum.inl (cI, rik, Sum.inl rif))] H := ⟨hP, hD⟩
    have hP := hPD.1
    have hD := hPD.2
    have hsu : (lN CD : Int64) = lN (cbR (pbS is b (RR, CD, q)).1 (RR, CD, q) (pbS is b (RR, CD, q)).2).2.1 := by rw [hcb]
    have hP := Eq.mp (congrArg (fun (z9 : Int64) => va_P (dC, dI) vwCl [(co, Sum.inr (3, [Value.int xshift, Value.long xkeptCode, Value.long xkeptRange, Value.int xkeptAsked, Value.int xcache, Value.int xpending, Value.long xlow, Value.long xrange, Value.long z9, Value.long xreadLow, Value.long (lN (cbR (pbS is b (RR, CD, q)).1 (RR, CD, q) (pbS is b (RR, CD, q)).2).1), Value.ref ri, Value.ref ro, Value.ref rw, Value.int (nI q)])), (ri, Sum.inr (0, [Value.int (nI is.length), Value.ref ria])), (ria, Sum.inl (cI, rik, Sum.inl rif))] H) hsu) hP
    have hD := Eq.mp (congrArg (fun (z9 : Int64) => va_D A [(co, Sum.inr (3, [Value.int xshift, Value.long xkeptCode, Value.long xkeptRange, Value.int xkeptAsked, Value.int xcache, Value.int xpending, Value.long xlow, Value.long xrange, Value.long z9, Value.long xreadLow, Value.long (lN (cbR (pbS is b (RR, CD, q)).1 (RR, CD, q) (pbS is b (RR, CD, q)).2).1), Value.ref ri, Value.ref ro, Value.ref rw, Value.int (nI q)])), (ri, Sum.inr (0, [Value.int (nI is.length), Value.ref ria])), (ria, Sum.inl (cI, rik, Sum.inl rif))]) hsu) hD
    have hPD : my_PD (dC, dI) vwCl A [(co, Sum.inr (3, [Value.int xshift, Value.long xkeptCode, Value.long xkeptRange, Value.int xkeptAsked, Value.int xcache, Value.int xpending, Value.long xlow, Value.long xrange, Value.long (lN (cbR (pbS is b (RR, CD, q)).1 (RR, CD, q) (pbS is b (RR, CD, q)).2).2.1), Value.long xreadLow, Value.long (lN (cbR (pbS is b (RR, CD, q)).1 (RR, CD, q) (pbS is b (RR, CD, q)).2).1), Value.ref ri, Value.ref ro, Value.ref rw, Value.int (nI q)])), (ri, Sum.inr (0, [Value.int (nI is.length), Value.ref ria])), (ria, Sum.inl (cI, rik, Sum.inl rif))] H := ⟨hP, hD⟩
    have hP := hPD.1
    have hD := hPD.2
    have hsu : (nI q : Int32) = nI (cbR (pbS is b (RR, CD, q)).1 (RR, CD, q) (pbS is b (RR, CD, q)).2).2.2 := by rw [hcb]
    have hP := Eq.mp (congrArg (fun (z9 : Int32) => va_P (dC, dI) vwCl [(co, Sum.inr (3, [Value.int xshift, Value.long xkeptCode, Value.long xkeptRange, Value.int xkeptAsked, Value.int xcache, Value.int xpending, Value.long xlow, Value.long xrange, Value.long (lN (cbR (pbS is b (RR, CD, q)).1 (RR, CD, q) (pbS is b (RR, CD, q)).2).2.1), Value.long xreadLow, Value.long (lN (cbR (pbS is b (RR, CD, q)).1 (RR, CD, q) (pbS is b (RR, CD, q)).2).1), Value.ref ri, Value.ref ro, Value.ref rw, Value.int z9])), (ri, Sum.inr (0, [Value.int (nI is.length), Value.ref ria])), (ria, Sum.inl (cI, rik, Sum.inl rif))] H) hsu) hP
    have hD := Eq.mp (congrArg (fun (z9 : Int32) => va_D A [(co, Sum.inr (3, [Value.int xshift, Value.long xkeptCode, Value.long xkeptRange, Value.int xkeptAsked, Value.int xcache, Value.int xpending, Value.long xlow, Value.long xrange, Value.long (lN (cbR (pbS is b (RR, CD, q)).1 (RR, CD, q) (pbS is b (RR, CD, q)).2).2.1), Value.long xreadLow, Value.long (lN (cbR (pbS is b (RR, CD, q)).1 (RR, CD, q) (pbS is b (RR, CD, q)).2).1), Value.ref ri, Value.ref ro, Value.ref rw, Value.int z9])), (ri, Sum.inr (0, [Value.int (nI is.length), Value.ref ria])), (ria, Sum.inl (cI, rik, Sum.inl rif))]) hsu) hD
    have hPD : my_PD (dC, dI) vwCl A [(co, Sum.inr (3, [Value.int xshift, Value.long xkeptCode, Value.long xkeptRange, Value.int xkeptAsked, Value.int xcache, Value.int xpending, Value.long xlow, Value.long xrange, Value.long (lN (cbR (pbS is b (RR, CD, q)).1 (RR, CD, q) (pbS is b (RR, CD, q)).2).2.1), Value.long xreadLow, Value.long (lN (cbR (pbS is b (RR, CD, q)).1 (RR, CD, q) (pbS is b (RR, CD, q)).2).1), Value.ref ri, Value.ref ro, Value.ref rw, Value.int (nI (cbR (pbS is b (RR, CD, q)).1 (RR, CD, q) (pbS is b (RR, CD, q)).2).2.2)])), (ri, Sum.inr (0, [Value.int (nI is.length), Value.ref ria])), (ria, Sum.inl (cI, rik, Sum.inl rif))] H := ⟨hP, hD⟩
    have hP := hPD.1
    have hD := hPD.2
    exact my_iret (v := (-1)) hx hb hr (rfl) hlocks hQ hK hS (Nat.le_refl _) (Nat.le_refl _) (xkeptCode, xkeptRange, xkeptAsked) (by rw [hgs]; rfl) (hP.sub [0, 1, 2] rfl) (hD.sub [0, 1, 2] (by decide +kernel) rfl) d_Bits_nextValue_13
end
section
set_option maxHeartbeats 2000000 in
set_option maxRecDepth 100000 in
theorem f_Stack_unstackPart (l : Launch) (dC : Nat → ClassId) (dI : Nat → Nat → Nat) (cI cM cO : ClassId) (sz : Nat) (co : Nat) (xx : Int64) (soa : Nat) (sna : Nat) (swa : Nat) (xkept : Int32) (ri : Nat) (ro : Nat) (rw : Nat) (ria : Nat) (rik : Nat) (rif : Nat → Int32) (is : List Nat) (X : Nat) (q : Nat) (ff : Nat) (rr9 : Nat) (hri : rOk (nI is.length) rik) (hGri : gIs rif is) (hLri : is.length ≤ 6000) (hoct : oct is) (hX : X < 4294967296) (hff : ff ≤ 4096) (hrr : rr9 < 4096) (hq : q < 900000000) : MetV l y_Stack_unstackPart (Cond.code y_Stack_unstackPart prog_10_method_12_code 4 none :: gw) ({ frames := 3, cells := 0, slots := 0, locals := 63 } : Room) (dC, dI) vwCl (kT cI cM cO) [Value.ref co, Value.int (nI ff), Value.int (nI rr9)] [(co, Sum.inr (4, [Value.long xx, Value.long (lN X), Value.ref soa, Value.ref sna, Value.ref swa, Value.int xkept, Value.ref ri, Value.ref ro, Value.ref rw, Value.int (nI q)])), (ri, Sum.inr (0, [Value.int (nI is.length), Value.ref ria])), (ria, Sum.inl (cI, rik, Sum.inl rif))] sz (fun (u : Unit) => True) (fun (u : Unit) => [(co, Sum.inr (4, [Value.long xx, Value.long (lN (rfS is (X / 4096 * ff + rr9, q)).1), Value.ref soa, Value.ref sna, Value.ref swa, Value.int xkept, Value.ref ri, Value.ref ro, Value.ref rw, Value.int (nI (rfS is (X / 4096 * ff + rr9, q)).2)])), (ri, Sum.inr (0, [Value.int (nI is.length), Value.ref ria])), (ria, Sum.inl (cI, rik, Sum.inl rif))]) 0 0 := by
  refine my_ofV (cc := prog_10_method_12_code) (n := 4) (ret := none) (by decide) rfl (Nat.le_of_ble_eq_true rfl) ?_
  intro p e s m args below meth c R Q A ls H locs hx hb hr hts hown hlocks hml hnm hR hQ hA hl hP hK hN hD hS
  have hg : ∀ w ∈ gw, w.before args s = true := fun w h => hts w (List.mem_cons_of_mem _ h)
  have hown : s.vm.findClass "RangeCoders$Stack" = some m.cls := hown
  have hl : lv_has ls 4 [(0, Value.ref co), (1, Value.int (nI ff)), (2, Value.int (nI rr9))] := hl
  have hlti := rOk_lt hri
  have hm9 : X / 4096 * ff ≤ X / 4096 * 4096 := Nat.mul_le_mul_left _ hff
  have hm8 := Nat.div_mul_le_self X 4096
  generalize hmm : X / 4096 * ff = mm9 at hm9
  refine lv_aload_n hx hb d_Stack_unstackPart_0 rfl (lv_at hl 0 rfl) ?_
  refine lv_iload_n hx hb d_Stack_unstackPart_1 rfl (lv_at hl 1 rfl) ?_
  refine lv_i2l hx hb d_Stack_unstackPart_2 rfl ?_
  refine lv_topl (fun v_1 ev_1 => ?_)
  have z9 : v_1 = lN ff := by rw [ev_1]; exact nI_l (by omega)
  subst z9
  refine lv_aload_n hx hb d_Stack_unstackPart_3 rfl (lv_at hl 0 rfl) ?_
  refine va_get (D := (dC, dI)) (ci := 4) (v := .long (lN X)) (C := "RangeCoders$Stack") (T := T_Stack) (N := 10) hx hb hg in_Stack hown hK hP 0 rfl rfl 1 (by decide) (hg _ k215) (fun x9 h9 => u_same (hg _ k216) x9 h9) rfl d_Stack_unstackPart_4 ?_
  refine lv_bipush (v := 12) hx hb d_Stack_unstackPart_7 (by decide) ?_
  refine lv_lushr hx hb d_Stack_unstackPart_9 rfl ?_
  refine lv_topl (fun v_2 ev_2 => ?_)
  have z9 : v_2 = lN (X / 4096) := by rw [ev_2]; exact U_shr12 (by omega)
  subst z9
  refine lv_lmul hx hb d_Stack_unstackPart_10 ?_
  refine lv_topl (fun v_3 ev_3 => ?_)
  have z9 : v_3 = lN mm9 := by rw [ev_3, lN_mul, Nat.mul_comm, hmm]
  subst z9
  refine lv_iload_n hx hb d_Stack_unstackPart_11 rfl (lv_at hl 2 rfl) ?_
  refine lv_i2l hx hb d_Stack_unstackPart_12 rfl ?_
  refine lv_topl (fun v_4 ev_4 => ?_)
  have z9 : v_4 = lN rr9 := by rw [ev_4]; exact nI_l (by omega)
  subst z9
  refine lv_ladd hx hb d_Stack_unstackPart_13 ?_
  refine lv_topl (fun v_5 ev_5 => ?_)
  have z9 : v_5 = lN (mm9 + rr9) := by rw [ev_5]; exact lN_add _ _
  subst z9
  refine va_put (D := (dC, dI)) (ci := 4) (v := .long (lN (mm9 + rr9))) (ty := .long) (C := "RangeCoders$Stack") (T := T_Stack) (N := 10) hx hb hg in_Stack t_Stack o_Stack n_Stack hown hK hP hD hS 0 rfl rfl 1 (by decide) (hg _ k215) (fun x9 h9 => u_same (hg _ k216) x9 h9) rfl (o_Stack 1 (by decide)) rfl rfl (Nat.le_of_ble_eq_true rfl) d_Stack_unstackPart_14 (fun H locs hP hD hS => ?_)
  have hPD : my_PD (dC, dI) vwCl A [(co, Sum.inr (4, [Value.long xx, Value.long (lN (mm9 + rr9)), Value.ref soa, Value.ref sna, Value.ref swa, Value.int xkept, Value.ref ri, Value.ref ro, Value.ref rw, Value.int (nI q)])), (ri, Sum.inr (0, [Value.int (nI is.length), Value.ref ria])), (ria, Sum.inl (cI, rik, Sum.inl rif))] H := ⟨hP, hD⟩
  have hP := hPD.1
  have hD := hPD.2
  refine lv_iconst (v := 0) hx hb d_Stack_unstackPart_17 (by decide) ?_
  refine lv_istore_n (lv' := [(3, Value.int 0), (0, Value.ref co), (1, Value.int (nI ff)), (2, Value.int (nI rr9))]) hx hb d_Stack_unstackPart_18 rfl hl (by decide) rfl (fun ls hl => ?_)
  have J_19 : ∀ (n9_19 : Nat) (e9 : Nat × Nat) (k9 : Nat) (hn9_19 : k9 = n9_19) (hE9 : rfS is (mm9 + rr9, q) = rfN is k9 e9) (hk8 : k9 ≤ 8) (hX9 : e9.1 < 8589934592) (hq9 : e9.2 + k9 ≤ 900000008) (H : Heap) (locs : List Loc) (ls : Array Slot), va_P (dC, dI) vwCl [(co, Sum.inr (4, [Value.long xx, Value.long (lN e9.1), Value.ref soa, Value.ref sna, Value.ref swa, Value.int xkept, Value.ref ri, Value.ref ro, Value.ref rw, Value.int (nI e9.2)])), (ri, Sum.inr (0, [Value.int (nI is.length), Value.ref ria])), (ria, Sum.inl (cI, rik, Sum.inl rif))] H → va_D A [(co, Sum.inr (4, [Value.long xx, Value.long (lN e9.1), Value.ref soa, Value.ref sna, Value.ref swa, Value.int xkept, Value.ref ri, Value.ref ro, Value.ref rw, Value.int (nI e9.2)])), (ri, Sum.inr (0, [Value.int (nI is.length), Value.ref ria])), (ria, Sum.inl (cI, rik, Sum.inl rif))] → va_S A s.heap H locs → lv_has ls 4 [(3, Value.int (nI (8 - k9))), (0, Value.ref co), (1, Value.int (nI ff)), (2, Value.int (nI rr9))] → W p l e R s m args below meth c H locs 0 0 Q (F0 m 19 ls []) := by
    intro n9_19
    induction n9_19 using Nat.strongRecOn with
    | ind n9_19 ih9_19 =>
      intro e9 k9 hn9_19 hE9 hk8 hX9 hq9 H locs ls hP hD hS hl
      have hb9 := hoct e9.2
      refine lv_iload_n hx hb d_Stack_unstackPart_19 rfl (lv_at hl 0 rfl) ?_
      refine lv_bipush (v := 8) hx hb d_Stack_unstackPart_20 (by decide) ?_
      refine lv_icmp_ge (tgt := 59) hx hb d_Stack_unstackPart_22 (by decide) (fun c_6 => ?_) (fun c_6 => ?_)
      · have he9 : rfN is k9 e9 = e9 := by rw [show k9 = 0 by have := nI_ge' (n := 8) (by omega) (by omega) c_6; omega]; rfl
        have z9 : e9 = rfS is (X / 4096 * ff + rr9, q) := by rw [hmm, hE9, he9]
        subst z9
        exact my_vret hx hb hr hlocks hQ hK hS (Nat.le_refl _) (Nat.le_refl _) () (trivial) (hP.sub [0, 1, 2] rfl) (hD.sub [0, 1, 2] (by decide +kernel) rfl) d_Stack_unstackPart_59
      · have hk1 : 1 ≤ k9 := by have := nI_lt' (n := 8) (by omega) c_6; omega
        refine lv_aload_n hx hb d_Stack_unstackPart_25 rfl (lv_at hl 1 rfl) ?_
        refine va_get (D := (dC, dI)) (ci := 4) (v := .long (lN e9.1)) (C := "RangeCoders$Stack") (T := T_Stack) (N := 10) hx hb hg in_Stack hown hK hP 0 rfl rfl 1 (by decide) (hg _ k215) (fun x9 h9 => u_same (hg _ k216) x9 h9) rfl d_Stack_unstackPart_26 ?_
        refine lv_ldc2 (v := 8388608) hx hb hown (hg _ k603) d_Stack_unstackPart_29 ?_
        refine W.lcmp hx hb d_Stack_unstackPart_32 ?_
        refine lv_if_ge (tgt := 59) hx hb d_Stack_unstackPart_33 (by decide) (fun c_7 => ?_) (fun c_7 => ?_)
        · rw [lg_cmp_ge] at c_7
          have he9 : rfN is k9 e9 = e9 := rfN_e (by have z := (L_le (a := 8388608) (by decide) (by omega)).mp c_7; omega)
          have z9 : e9 = rfS is (X / 4096 * ff + rr9, q) := by rw [hmm, hE9, he9]
          subst z9
          exact my_vret hx hb hr hlocks hQ hK hS (Nat.le_refl _) (Nat.le_refl _) () (trivial) (hP.sub [0, 1, 2] rfl) (hD.sub [0, 1, 2] (by decide +kernel) rfl) d_Stack_unstackPart_59
        · rw [lg_cmp_ge] at c_7
          have hlt : e9.1 < 8388608 := by
            rcases Nat.lt_or_ge e9.1 8388608 with z | z
            · exact z
            · exact absurd ((L_le (a := 8388608) (by decide) (by omega)).mpr z) c_7
          refine lv_aload_n hx hb d_Stack_unstackPart_36 rfl (lv_at hl 1 rfl) ?_
          refine lv_aload_n hx hb d_Stack_unstackPart_37 rfl (lv_at hl 1 rfl) ?_
          refine va_get (D := (dC, dI)) (ci := 4) (v := .long (lN e9.1)) (C := "RangeCoders$Stack") (T := T_Stack) (N := 10) hx hb hg in_Stack hown hK hP 0 rfl rfl 1 (by decide) (hg _ k215) (fun x9 h9 => u_same (hg _ k216) x9 h9) rfl d_Stack_unstackPart_38 ?_
          refine lv_bipush (v := 8) hx hb d_Stack_unstackPart_41 (by decide) ?_
          refine lv_lshl hx hb d_Stack_unstackPart_43 rfl ?_
          refine lv_topl (fun v_8 ev_8 => ?_)
          have z9 : v_8 = lN (e9.1 * 256) := by rw [ev_8]; exact L_shl8 _
          subst z9
          refine lv_aload_n hx hb d_Stack_unstackPart_44 rfl (lv_at hl 1 rfl) ?_
          refine my_ci (wr := []) (va_runU (As := []) (rest := [Value.long (lN (e9.1 * 256)), Value.ref co]) ⟨hx, hb, hml, hown, hts⟩ (f_Stack_nextByte l dC dI cI cM cO H.size co xx (lN e9.1) soa sna swa xkept ri ro rw ria rik rif is e9.2 (hri) (hGri) (hLri) (by omega)) (va_cwU 0 hts (my_gU k839 k840 k841 k742 k3 k749) rfl rfl rfl rfl (by decide +kernel) ⟨by rw [hR]; exact Nat.le_of_ble_eq_true rfl, by rw [hR]; exact Nat.le_of_ble_eq_true rfl⟩) (my_preV hK hN (hP.sub [0, 1, 2] rfl) (hD.sub [0, 1, 2] (by decide +kernel) rfl) 0 rfl rfl) rfl rfl hl.1 rfl (lv_room (Nat.le_of_ble_eq_true rfl)) d_Stack_unstackPart_45 ⟨by rw [hR]; exact Nat.le_of_ble_eq_true rfl, by rw [hR]; exact Nat.le_of_ble_eq_true rfl⟩) hP hD hS hA [0, 1, 2] [] rfl rfl (by decide +kernel) (by decide +kernel) (fun r_45 u9 H locs hw_45 hP hD hS => ?_)
          have hr_45 : r_45 = nI (byA is e9.2) := hw_45
          have hPD : my_PD (dC, dI) vwCl A [(co, Sum.inr (4, [Value.long xx, Value.long (lN e9.1), Value.ref soa, Value.ref sna, Value.ref swa, Value.int xkept, Value.ref ri, Value.ref ro, Value.ref rw, Value.int (nI (e9.2 + 1))])), (ri, Sum.inr (0, [Value.int (nI is.length), Value.ref ria])), (ria, Sum.inl (cI, rik, Sum.inl rif))] H := ⟨hP, hD⟩
          have hP := hPD.1
          have hD := hPD.2
          have z9 : r_45 = nI (byA is e9.2) := hr_45
          subst z9
          refine lv_i2l hx hb d_Stack_unstackPart_48 rfl ?_
          refine lv_topl (fun v_9 ev_9 => ?_)
          have z9 : v_9 = lN (byA is e9.2) := by rw [ev_9]; exact nI_l (by omega)
          subst z9
          refine lv_lor hx hb d_Stack_unstackPart_49 ?_
          refine lv_topl (fun v_10 ev_10 => ?_)
          have z9 : v_10 = lN (e9.1 * 256 + byA is e9.2) := by rw [ev_10]; exact L_code (by omega) hb9
          subst z9
          refine va_put (D := (dC, dI)) (ci := 4) (v := .long (lN (e9.1 * 256 + byA is e9.2))) (ty := .long) (C := "RangeCoders$Stack") (T := T_Stack) (N := 10) hx hb hg in_Stack t_Stack o_Stack n_Stack hown hK hP hD hS 0 rfl rfl 1 (by decide) (hg _ k215) (fun x9 h9 => u_same (hg _ k216) x9 h9) rfl (o_Stack 1 (by decide)) rfl rfl (Nat.le_of_ble_eq_true rfl) d_Stack_unstackPart_50 (fun H locs hP hD hS => ?_)
          have hPD : my_PD (dC, dI) vwCl A [(co, Sum.inr (4, [Value.long xx, Value.long (lN (e9.1 * 256 + byA is e9.2)), Value.ref soa, Value.ref sna, Value.ref swa, Value.int xkept, Value.ref ri, Value.ref ro, Value.ref rw, Value.int (nI (e9.2 + 1))])), (ri, Sum.inr (0, [Value.int (nI is.length), Value.ref ria])), (ria, Sum.inl (cI, rik, Sum.inl rif))] H := ⟨hP, hD⟩
          have hP := hPD.1
          have hD := hPD.2
          obtain ⟨v_11, ev_11⟩ : ∃ y : Int32, y = (nI (8 - k9)) + (1) := ⟨_, rfl⟩
          refine lv_iinc (v := v_11) (lv' := [(3, Value.int v_11), (0, Value.ref co), (1, Value.int (nI ff)), (2, Value.int (nI rr9))]) hx hb d_Stack_unstackPart_53 hl (k := 0) rfl (by rw [ev_11]; rfl) (by decide) rfl (fun ls hl => ?_)
          have z9 : v_11 = nI (8 - (k9 - 1)) := by rw [ev_11, show 8 - (k9 - 1) = 8 - k9 + 1 by omega]; exact nI_1 _
          subst z9
          refine lv_goto (tgt := 19) hx hb d_Stack_unstackPart_56 (by decide) ?_
          exact ih9_19 _ (by first | omega | (omega)) (e9.1 * 256 + byA is e9.2, e9.2 + 1) (k9 - 1) rfl (by rw [hE9, rfN_s (by omega) hlt]) (by omega) (by show e9.1 * 256 + byA is e9.2 < _; omega) (by show e9.2 + 1 + (k9 - 1) ≤ _; omega) H locs ls (hP.sub [0, 1, 2] rfl) (hD.sub [0, 1, 2] (by decide +kernel) rfl) hS (lv_sub hl [0, 1, 2, 3] rfl)
  exact J_19 _ (mm9 + rr9, q) (8 : Nat) rfl (rfl) (by decide) (by show mm9 + rr9 < _; omega) (by show q + 8 ≤ _; omega) H locs ls (hP.sub [0, 1, 2] rfl) (hD.sub [0, 1, 2] (by decide +kernel) rfl) hS (lv_sub hl [0, 1, 2, 3] rfl)
set_option maxHeartbeats 2000000 in
set_option maxRecDepth 100000 in
theorem f_Stack_nextSign (l : Launch) (dC : Nat → ClassId) (dI : Nat → Nat → Nat) (cI cM cO : ClassId) (sz : Nat) (co : Nat) (xx : Int64) (soa : Nat) (sna : Nat) (swa : Nat) (xkept : Int32) (ri : Nat) (ro : Nat) (rw : Nat) (ria : Nat) (rik : Nat) (rif : Nat → Int32) (is : List Nat) (X : Nat) (q : Nat) (oo : Nat) (osg : Int32) (ofc : Int32) (oca : Nat) (opa : Nat) (n : Nat) (ocf : Nat → Int32) (opl : Nat) (opf : Nat → Int32) (F : Nat → Nat) (osm : Int32) (hri : rOk (nI is.length) rik) (hGri : gIs rif is) (hLri : is.length ≤ 6000) (hoct : oct is) (hn : n ≤ 64) (hpl : opl ≤ 512) (hf : tbI ocf n F) (hfc0 : ofc = 0) (hsum : ns F n = 0 ∨ ns F n = 4096) (hX : X < 4294967296) (hq : q < 900000000) : MetI l y_Stack_nextSign (Cond.code y_Stack_nextSign prog_10_method_8_code 4 (some .int) :: gw) ({ frames := 4, cells := 0, slots := 0, locals := 86 } : Room) (dC, dI) vwCl (kT cI cM cO) [Value.ref co, Value.ref oo] [(co, Sum.inr (4, [Value.long xx, Value.long (lN X), Value.ref soa, Value.ref sna, Value.ref swa, Value.int xkept, Value.ref ri, Value.ref ro, Value.ref rw, Value.int (nI q)])), (ri, Sum.inr (0, [Value.int (nI is.length), Value.ref ria])), (ria, Sum.inl (cI, rik, Sum.inl rif)), (oo, Sum.inr (7, [Value.int osg, Value.int osm, Value.int ofc, Value.ref oca, Value.ref opa])), (oca, Sum.inl (cI, n, Sum.inl ocf)), (opa, Sum.inl (cI, opl, Sum.inl opf))] sz (fun (r : Int32) (u : Unit) => r = oI (gs3 is n F X q).1) (fun (u : Unit) => [(co, Sum.inr (4, [Value.long xx, Value.long (lN (gs3 is n F X q).2.1), Value.ref soa, Value.ref sna, Value.ref swa, Value.int xkept, Value.ref ri, Value.ref ro, Value.ref rw, Value.int (nI (gs3 is n F X q).2.2)])), (ri, Sum.inr (0, [Value.int (nI is.length), Value.ref ria])), (ria, Sum.inl (cI, rik, Sum.inl rif)), (oo, Sum.inr (7, [Value.int osg, Value.int osm, Value.int ofc, Value.ref oca, Value.ref opa])), (oca, Sum.inl (cI, n, Sum.inl ocf)), (opa, Sum.inl (cI, opl, Sum.inl opf))]) 0 0 := by
  refine my_ofI (cc := prog_10_method_8_code) (n := 4) (ret := (some .int)) (by decide) rfl (Nat.le_of_ble_eq_true rfl) ?_
  intro p e s m args below meth c R Q A ls H locs hx hb hr hts hown hlocks hml hnm hR hQ hA hl hP hK hN hD hS
  have hg : ∀ w ∈ gw, w.before args s = true := fun w h => hts w (List.mem_cons_of_mem _ h)
  have hown : s.vm.findClass "RangeCoders$Stack" = some m.cls := hown
  have hl : lv_has ls 4 [(0, Value.ref co), (1, Value.ref oo)] := hl
  have hlti := rOk_lt hri
  refine lv_aload_n hx hb d_Stack_nextSign_0 rfl (lv_at hl 0 rfl) ?_
  refine va_get (D := (dC, dI)) (ci := 4) (v := .long (lN X)) (C := "RangeCoders$Stack") (T := T_Stack) (N := 10) hx hb hg in_Stack hown hK hP 0 rfl rfl 1 (by decide) (hg _ k215) (fun x9 h9 => u_same (hg _ k216) x9 h9) rfl d_Stack_nextSign_1 ?_
  refine lv_ldc2 (v := 4095) hx hb hown (hg _ k833) d_Stack_nextSign_4 ?_
  refine lv_land hx hb d_Stack_nextSign_7 ?_
  refine lv_topl (fun v_1 ev_1 => ?_)
  refine lv_l2i hx hb d_Stack_nextSign_8 rfl ?_
  refine lv_topi (fun v_2 ev_2 => ?_)
  have z9 : v_2 = nI (X % 4096) := by subst_vars; rw [L_and12 (by omega)]; exact lN_i _
  subst z9
  refine lv_istore_n (lv' := [(2, Value.int (nI (X % 4096))), (0, Value.ref co), (1, Value.ref oo)]) hx hb d_Stack_nextSign_9 rfl hl (by decide) rfl (fun ls hl => ?_)
  refine lv_aload_n hx hb d_Stack_nextSign_10 rfl (lv_at hl 2 rfl) ?_
  refine lv_iload_n hx hb d_Stack_nextSign_11 rfl (lv_at hl 0 rfl) ?_
  refine my_ci (wr := [(co, Sum.inr (4, [Value.long xx, Value.long (lN X), Value.ref soa, Value.ref sna, Value.ref swa, Value.int xkept, Value.ref ri, Value.ref ro, Value.ref rw, Value.int (nI q)])), (ri, Sum.inr (0, [Value.int (nI is.length), Value.ref ria])), (ria, Sum.inl (cI, rik, Sum.inl rif))]) (va_runV (As := [Value.int (nI (X % 4096))]) (rest := []) ⟨hx, hb, hml, hown, hts⟩ (f_Odds_signAt l dC dI cI cM cO H.size oo osg ofc oca opa n ocf opl opf F osm (X % 4096) (by first | assumption | omega) (by first | assumption | omega) (by first | assumption | omega) (by omega) (by omega)) (cwV 1 hts (my_gV k834 k812 k813 k14 k814) rfl rfl rfl cu_Odds_signAt_1 ⟨by rw [hR]; exact Nat.le_of_ble_eq_true rfl, by rw [hR]; exact Nat.le_of_ble_eq_true rfl⟩) (my_preV hK hN (hP.sub [3, 4, 5] rfl) (hD.sub [3, 4, 5] (by decide +kernel) rfl) 0 rfl rfl) rfl rfl hl.1 rfl (lv_room (Nat.le_of_ble_eq_true rfl)) d_Stack_nextSign_12 ⟨by rw [hR]; exact Nat.le_of_ble_eq_true rfl, by rw [hR]; exact Nat.le_of_ble_eq_true rfl⟩) hP hD hS hA [3, 4, 5] [0, 1, 2] rfl rfl (by decide +kernel) (by decide +kernel) (fun r_12 u9 H locs hw_12 hP hD hS => ?_)
  have hr_12 : r_12 = if (X % 4096) < ns F n then nI (sgA F n (X % 4096)) else -1 := hw_12
  have hPD : my_PD (dC, dI) vwCl A [(co, Sum.inr (4, [Value.long xx, Value.long (lN X), Value.ref soa, Value.ref sna, Value.ref swa, Value.int xkept, Value.ref ri, Value.ref ro, Value.ref rw, Value.int (nI q)])), (ri, Sum.inr (0, [Value.int (nI is.length), Value.ref ria])), (ria, Sum.inl (cI, rik, Sum.inl rif)), (oo, Sum.inr (7, [Value.int osg, Value.int osm, Value.int ofc, Value.ref oca, Value.ref opa])), (oca, Sum.inl (cI, n, Sum.inl ocf)), (opa, Sum.inl (cI, opl, Sum.inl opf))] H := ⟨hP, hD⟩
  have hP := hPD.1
  have hD := hPD.2
  have hz8 : ns F n = 0 ∨ (X % 4096 < ns F n ∧ ns F n = 4096) := by
    rcases hsum with z | z
    · exact Or.inl z
    · exact Or.inr ⟨by omega, z⟩
  refine lv_istore_n (lv' := [(3, Value.int r_12), (2, Value.int (nI (X % 4096))), (0, Value.ref co), (1, Value.ref oo)]) hx hb d_Stack_nextSign_15 rfl hl (by decide) rfl (fun ls hl => ?_)
  refine lv_iload_n hx hb d_Stack_nextSign_16 rfl (lv_at hl 0 rfl) ?_
  refine lv_iconst (v := (-1)) hx hb d_Stack_nextSign_17 (by decide) ?_
  refine lv_icmp_eq (tgt := 37) hx hb d_Stack_nextSign_18 (by decide) (fun c_3 => ?_) (fun c_3 => ?_)
  · have hz9 : ns F n = 0 := by rcases hz8 with z | z; exact z; exact absurd (by rw [← c_3, hr_12, if_pos z.1]) (nI_nm1 (v := sgA F n (X % 4096)) (by have := (sgA_spec (F := F) (n := n) z.1).1; omega))
    have hgr : gs3 is n F X q = (none, (X, q)) := by unfold gs3; rw [if_pos hz9]
    have hsu : (lN X : Int64) = lN (gs3 is n F X q).2.1 := by rw [hgr]
    rw [hsu] at hP hD
    have hPD : my_PD (dC, dI) vwCl A [(co, Sum.inr (4, [Value.long xx, Value.long (lN (gs3 is n F X q).2.1), Value.ref soa, Value.ref sna, Value.ref swa, Value.int xkept, Value.ref ri, Value.ref ro, Value.ref rw, Value.int (nI q)])), (ri, Sum.inr (0, [Value.int (nI is.length), Value.ref ria])), (ria, Sum.inl (cI, rik, Sum.inl rif)), (oo, Sum.inr (7, [Value.int osg, Value.int osm, Value.int ofc, Value.ref oca, Value.ref opa])), (oca, Sum.inl (cI, n, Sum.inl ocf)), (opa, Sum.inl (cI, opl, Sum.inl opf))] H := ⟨hP, hD⟩
    have hP := hPD.1
    have hD := hPD.2
    have hsu : (nI q : Int32) = nI (gs3 is n F X q).2.2 := by rw [hgr]
    rw [hsu] at hP hD
    have hPD : my_PD (dC, dI) vwCl A [(co, Sum.inr (4, [Value.long xx, Value.long (lN (gs3 is n F X q).2.1), Value.ref soa, Value.ref sna, Value.ref swa, Value.int xkept, Value.ref ri, Value.ref ro, Value.ref rw, Value.int (nI (gs3 is n F X q).2.2)])), (ri, Sum.inr (0, [Value.int (nI is.length), Value.ref ria])), (ria, Sum.inl (cI, rik, Sum.inl rif)), (oo, Sum.inr (7, [Value.int osg, Value.int osm, Value.int ofc, Value.ref oca, Value.ref opa])), (oca, Sum.inl (cI, n, Sum.inl ocf)), (opa, Sum.inl (cI, opl, Sum.inl opf))] H := ⟨hP, hD⟩
    have hP := hPD.1
    have hD := hPD.2
    refine lv_iload_n hx hb d_Stack_nextSign_37 rfl (lv_at hl 0 rfl) ?_
    exact my_iret (v := r_12) hx hb hr (rfl) hlocks hQ hK hS (Nat.le_refl _) (Nat.le_refl _) () (by rw [hgr]; exact c_3) (hP.sub [0, 1, 2, 3, 4, 5] rfl) (hD.sub [0, 1, 2, 3, 4, 5] (by decide +kernel) rfl) d_Stack_nextSign_38
  · have hz7 : X % 4096 < ns F n := by rcases hz8 with z | z; exact absurd (by rw [hr_12, if_neg (by omega)]) c_3; exact z.1
    obtain ⟨hs1, hs2, hs3⟩ := sgA_spec (F := F) (n := n) hz7
    have hm1 := ns_m1 F hs1
    have z9 : r_12 = nI (sgA F n (X % 4096)) := by rw [hr_12, if_pos hz7]
    subst z9
    refine lv_aload_n hx hb d_Stack_nextSign_21 rfl (lv_at hl 2 rfl) ?_
    refine lv_aload_n hx hb d_Stack_nextSign_22 rfl (lv_at hl 3 rfl) ?_
    refine lv_iload_n hx hb d_Stack_nextSign_23 rfl (lv_at hl 0 rfl) ?_
    refine my_ci (wr := [(co, Sum.inr (4, [Value.long xx, Value.long (lN X), Value.ref soa, Value.ref sna, Value.ref swa, Value.int xkept, Value.ref ri, Value.ref ro, Value.ref rw, Value.int (nI q)])), (ri, Sum.inr (0, [Value.int (nI is.length), Value.ref ria])), (ria, Sum.inl (cI, rik, Sum.inl rif))]) (va_runV (As := [Value.int (nI (sgA F n (X % 4096)))]) (rest := [Value.ref co]) ⟨hx, hb, hml, hown, hts⟩ (f_Odds_at l dC dI cI cM cO H.size oo osg ofc oca opa n ocf opl opf osm (sgA F n (X % 4096)) (by first | assumption | omega) (by first | assumption | omega) (hs1) (by rw [hfc0]; exact nI_pos' (by omega))) (cwV 1 hts (my_gV k636 k436 k437 k14 k438) rfl rfl rfl cu_Odds_at_1 ⟨by rw [hR]; exact Nat.le_of_ble_eq_true rfl, by rw [hR]; exact Nat.le_of_ble_eq_true rfl⟩) (my_preV hK hN (hP.sub [3, 4, 5] rfl) (hD.sub [3, 4, 5] (by decide +kernel) rfl) 0 rfl rfl) rfl rfl hl.1 rfl (lv_room (Nat.le_of_ble_eq_true rfl)) d_Stack_nextSign_24 ⟨by rw [hR]; exact Nat.le_of_ble_eq_true rfl, by rw [hR]; exact Nat.le_of_ble_eq_true rfl⟩) hP hD hS hA [3, 4, 5] [0, 1, 2] rfl rfl (by decide +kernel) (by decide +kernel) (fun r_24 u9 H locs hw_24 hP hD hS => ?_)
    have hr_24 : r_24 = ocf (sgA F n (X % 4096)) := hw_24
    have hPD : my_PD (dC, dI) vwCl A [(co, Sum.inr (4, [Value.long xx, Value.long (lN X), Value.ref soa, Value.ref sna, Value.ref swa, Value.int xkept, Value.ref ri, Value.ref ro, Value.ref rw, Value.int (nI q)])), (ri, Sum.inr (0, [Value.int (nI is.length), Value.ref ria])), (ria, Sum.inl (cI, rik, Sum.inl rif)), (oo, Sum.inr (7, [Value.int osg, Value.int osm, Value.int ofc, Value.ref oca, Value.ref opa])), (oca, Sum.inl (cI, n, Sum.inl ocf)), (opa, Sum.inl (cI, opl, Sum.inl opf))] H := ⟨hP, hD⟩
    have hP := hPD.1
    have hD := hPD.2
    rw [hf (sgA F n (X % 4096)) hs1] at hr_24
    have z9 : r_24 = nI (F (sgA F n (X % 4096))) := hr_24
    subst z9
    refine lv_iload_n hx hb d_Stack_nextSign_27 rfl (lv_at hl 1 rfl) ?_
    refine lv_aload_n hx hb d_Stack_nextSign_28 rfl (lv_at hl 3 rfl) ?_
    refine lv_iload_n hx hb d_Stack_nextSign_29 rfl (lv_at hl 0 rfl) ?_
    refine my_ci (wr := [(co, Sum.inr (4, [Value.long xx, Value.long (lN X), Value.ref soa, Value.ref sna, Value.ref swa, Value.int xkept, Value.ref ri, Value.ref ro, Value.ref rw, Value.int (nI q)])), (ri, Sum.inr (0, [Value.int (nI is.length), Value.ref ria])), (ria, Sum.inl (cI, rik, Sum.inl rif))]) (va_runV (As := [Value.int (nI (sgA F n (X % 4096)))]) (rest := [Value.int (nI (X % 4096)), Value.int (nI (F (sgA F n (X % 4096)))), Value.ref co]) ⟨hx, hb, hml, hown, hts⟩ (f_Odds_below l dC dI cI cM cO H.size oo osg ofc oca opa n ocf opl opf F osm (sgA F n (X % 4096)) (by first | assumption | omega) (by first | assumption | omega) (by first | assumption | omega) (by omega)) (cwV 1 hts (my_gV k637 k495 k496 k14 k497) rfl rfl rfl cu_Odds_below_1 ⟨by rw [hR]; exact Nat.le_of_ble_eq_true rfl, by rw [hR]; exact Nat.le_of_ble_eq_true rfl⟩) (my_preV hK hN (hP.sub [3, 4, 5] rfl) (hD.sub [3, 4, 5] (by decide +kernel) rfl) 0 rfl rfl) rfl rfl hl.1 rfl (lv_room (Nat.le_of_ble_eq_true rfl)) d_Stack_nextSign_30 ⟨by rw [hR]; exact Nat.le_of_ble_eq_true rfl, by rw [hR]; exact Nat.le_of_ble_eq_true rfl⟩) hP hD hS hA [3, 4, 5] [0, 1, 2] rfl rfl (by decide +kernel) (by decide +kernel) (fun r_30 u9 H locs hw_30 hP hD hS => ?_)
    have hr_30 : r_30 = nI (ns F (sgA F n (X % 4096))) := hw_30
    have hPD : my_PD (dC, dI) vwCl A [(co, Sum.inr (4, [Value.long xx, Value.long (lN X), Value.ref soa, Value.ref sna, Value.ref swa, Value.int xkept, Value.ref ri, Value.ref ro, Value.ref rw, Value.int (nI q)])), (ri, Sum.inr (0, [Value.int (nI is.length), Value.ref ria])), (ria, Sum.inl (cI, rik, Sum.inl rif)), (oo, Sum.inr (7, [Value.int osg, Value.int osm, Value.int ofc, Value.ref oca, Value.ref opa])), (oca, Sum.inl (cI, n, Sum.inl ocf)), (opa, Sum.inl (cI, opl, Sum.inl opf))] H := ⟨hP, hD⟩
    have hP := hPD.1
    have hD := hPD.2
    have z9 : r_30 = nI (ns F (sgA F n (X % 4096))) := hr_30
    subst z9
    refine lv_isub hx hb d_Stack_nextSign_33 ?_
    refine lv_topi (fun v_4 ev_4 => ?_)
    have z9 : v_4 = nI (X % 4096 - ns F (sgA F n (X % 4096))) := by rw [ev_4]; exact pk_sub hs2
    subst z9
    refine my_cv (wr := [(oo, Sum.inr (7, [Value.int osg, Value.int osm, Value.int ofc, Value.ref oca, Value.ref opa])), (oca, Sum.inl (cI, n, Sum.inl ocf)), (opa, Sum.inl (cI, opl, Sum.inl opf))]) (va_runV (As := [Value.int (nI (F (sgA F n (X % 4096)))), Value.int (nI (X % 4096 - ns F (sgA F n (X % 4096))))]) (rest := []) ⟨hx, hb, hml, hown, hts⟩ (f_Stack_unstackPart l dC dI cI cM cO H.size co xx soa sna swa xkept ri ro rw ria rik rif is X q (F (sgA F n (X % 4096))) (X % 4096 - ns F (sgA F n (X % 4096))) (hri) (hGri) (hLri) (hoct) (hX) (by omega) (by omega) (hq)) (cwV 2 hts (my_gV k835 k837 ks16 k10 k838) rfl rfl rfl cu_Stack_unstackPart_2 ⟨by rw [hR]; exact Nat.le_of_ble_eq_true rfl, by rw [hR]; exact Nat.le_of_ble_eq_true rfl⟩) (my_preV hK hN (hP.sub [0, 1, 2] rfl) (hD.sub [0, 1, 2] (by decide +kernel) rfl) 0 rfl rfl) rfl rfl hl.1 rfl (lv_room (Nat.le_of_ble_eq_true rfl)) d_Stack_nextSign_34 ⟨by rw [hR]; exact Nat.le_of_ble_eq_true rfl, by rw [hR]; exact Nat.le_of_ble_eq_true rfl⟩) hP hD hS hA [0, 1, 2] [3, 4, 5] rfl rfl (by decide +kernel) (by decide +kernel) (fun u9 H locs hw_34 hP hD hS => ?_)
    have hPD : my_PD (dC, dI) vwCl A [(oo, Sum.inr (7, [Value.int osg, Value.int osm, Value.int ofc, Value.ref oca, Value.ref opa])), (oca, Sum.inl (cI, n, Sum.inl ocf)), (opa, Sum.inl (cI, opl, Sum.inl opf)), (co, Sum.inr (4, [Value.long xx, Value.long (lN (rfS is (X / 4096 * (F (sgA F n (X % 4096))) + (X % 4096 - ns F (sgA F n (X % 4096))), q)).1), Value.ref soa, Value.ref sna, Value.ref swa, Value.int xkept, Value.ref ri, Value.ref ro, Value.ref rw, Value.int (nI (rfS is (X / 4096 * (F (sgA F n (X % 4096))) + (X % 4096 - ns F (sgA F n (X % 4096))), q)).2)])), (ri, Sum.inr (0, [Value.int (nI is.length), Value.ref ria])), (ria, Sum.inl (cI, rik, Sum.inl rif))] H := ⟨hP, hD⟩
    have hP := hPD.1
    have hD := hPD.2
    have hgr : gs3 is n F X q = (some (sgA F n (X % 4096)), rfS is (X / 4096 * F (sgA F n (X % 4096)) + (X % 4096 - ns F (sgA F n (X % 4096))), q)) := by unfold gs3; rw [if_neg (by omega), Nat.add_sub_assoc hs2]
    have hsu : (lN (rfS is (X / 4096 * (F (sgA F n (X % 4096))) + (X % 4096 - ns F (sgA F n (X % 4096))), q)).1 : Int64) = lN (gs3 is n F X q).2.1 := by rw [hgr]
    rw [hsu] at hP hD
    have hPD : my_PD (dC, dI) vwCl A [(oo, Sum.inr (7, [Value.int osg, Value.int osm, Value.int ofc, Value.ref oca, Value.ref opa])), (oca, Sum.inl (cI, n, Sum.inl ocf)), (opa, Sum.inl (cI, opl, Sum.inl opf)), (co, Sum.inr (4, [Value.long xx, Value.long (lN (gs3 is n F X q).2.1), Value.ref soa, Value.ref sna, Value.ref swa, Value.int xkept, Value.ref ri, Value.ref ro, Value.ref rw, Value.int (nI (rfS is (X / 4096 * (F (sgA F n (X % 4096))) + (X % 4096 - ns F (sgA F n (X % 4096))), q)).2)])), (ri, Sum.inr (0, [Value.int (nI is.length), Value.ref ria])), (ria, Sum.inl (cI, rik, Sum.inl rif))] H := ⟨hP, hD⟩
    have hP := hPD.1
    have hD := hPD.2
    have hsu : (nI (rfS is (X / 4096 * (F (sgA F n (X % 4096))) + (X % 4096 - ns F (sgA F n (X % 4096))), q)).2 : Int32) = nI (gs3 is n F X q).2.2 := by rw [hgr]
    rw [hsu] at hP hD
    have hPD : my_PD (dC, dI) vwCl A [(oo, Sum.inr (7, [Value.int osg, Value.int osm, Value.int ofc, Value.ref oca, Value.ref opa])), (oca, Sum.inl (cI, n, Sum.inl ocf)), (opa, Sum.inl (cI, opl, Sum.inl opf)), (co, Sum.inr (4, [Value.long xx, Value.long (lN (gs3 is n F X q).2.1), Value.ref soa, Value.ref sna, Value.ref swa, Value.int xkept, Value.ref ri, Value.ref ro, Value.ref rw, Value.int (nI (gs3 is n F X q).2.2)])), (ri, Sum.inr (0, [Value.int (nI is.length), Value.ref ria])), (ria, Sum.inl (cI, rik, Sum.inl rif))] H := ⟨hP, hD⟩
    have hP := hPD.1
    have hD := hPD.2
    refine lv_iload_n hx hb d_Stack_nextSign_37 rfl (lv_at hl 0 rfl) ?_
    exact my_iret (v := (nI (sgA F n (X % 4096)))) hx hb hr (rfl) hlocks hQ hK hS (Nat.le_refl _) (Nat.le_refl _) () (by rw [hgr]; rfl) (hP.sub [3, 4, 5, 0, 1, 2] rfl) (hD.sub [3, 4, 5, 0, 1, 2] (by decide +kernel) rfl) d_Stack_nextSign_38
set_option maxHeartbeats 2000000 in
set_option maxRecDepth 100000 in
theorem f_Stack_nextValue (l : Launch) (dC : Nat → ClassId) (dI : Nat → Nat → Nat) (cI cM cO : ClassId) (sz : Nat) (co : Nat) (xx : Int64) (soa : Nat) (sna : Nat) (swa : Nat) (xkept : Int32) (ri : Nat) (ro : Nat) (rw : Nat) (ria : Nat) (rik : Nat) (rif : Nat → Int32) (is : List Nat) (X : Nat) (q : Nat) (b : Nat) (hri : rOk (nI is.length) rik) (hGri : gIs rif is) (hLri : is.length ≤ 6000) (hoct : oct is) (hb1 : 1 ≤ b) (hb2 : b ≤ 12) (hX : X < 4294967296) (hq : q < 900000000) : MetI l y_Stack_nextValue (Cond.code y_Stack_nextValue prog_10_method_9_code 4 (some .int) :: gw) ({ frames := 4, cells := 0, slots := 0, locals := 86 } : Room) (dC, dI) vwCl (kT cI cM cO) [Value.ref co, Value.int (nI b)] [(co, Sum.inr (4, [Value.long xx, Value.long (lN X), Value.ref soa, Value.ref sna, Value.ref swa, Value.int xkept, Value.ref ri, Value.ref ro, Value.ref rw, Value.int (nI q)])), (ri, Sum.inr (0, [Value.int (nI is.length), Value.ref ria])), (ria, Sum.inl (cI, rik, Sum.inl rif))] sz (fun (r : Int32) (u : Unit) => r = nI (X % 4096 / (4096 / 2 ^ b))) (fun (u : Unit) => [(co, Sum.inr (4, [Value.long xx, Value.long (lN (rfS is (X / 4096 * (4096 / 2 ^ b) + X % 4096 % (4096 / 2 ^ b), q)).1), Value.ref soa, Value.ref sna, Value.ref swa, Value.int xkept, Value.ref ri, Value.ref ro, Value.ref rw, Value.int (nI (rfS is (X / 4096 * (4096 / 2 ^ b) + X % 4096 % (4096 / 2 ^ b), q)).2)])), (ri, Sum.inr (0, [Value.int (nI is.length), Value.ref ria])), (ria, Sum.inl (cI, rik, Sum.inl rif))]) 0 0 := by
  refine my_ofI (cc := prog_10_method_9_code) (n := 4) (ret := (some .int)) (by decide) rfl (Nat.le_of_ble_eq_true rfl) ?_
  intro p e s m args below meth c R Q A ls H locs hx hb hr hts hown hlocks hml hnm hR hQ hA hl hP hK hN hD hS
  have hg : ∀ w ∈ gw, w.before args s = true := fun w h => hts w (List.mem_cons_of_mem _ h)
  have hown : s.vm.findClass "RangeCoders$Stack" = some m.cls := hown
  have hl : lv_has ls 4 [(0, Value.ref co), (1, Value.int (nI b))] := hl
  have hlti := rOk_lt hri
  have hpw : 2 ^ b ≤ 2 ^ 12 := Nat.pow_le_pow_right (by decide) hb2
  have hpw0 : 0 < 2 ^ b := Nat.pow_pos (by decide)
  have hq0 : 0 < 4096 / 2 ^ b := Nat.div_pos hpw hpw0
  have hq1 : 4096 / 2 ^ b ≤ 4096 := Nat.div_le_self _ _
  have hq2 := Nat.mod_lt (X % 4096) hq0
  refine lv_aload_n hx hb d_Stack_nextValue_0 rfl (lv_at hl 0 rfl) ?_
  refine va_get (D := (dC, dI)) (ci := 4) (v := .long (lN X)) (C := "RangeCoders$Stack") (T := T_Stack) (N := 10) hx hb hg in_Stack hown hK hP 0 rfl rfl 1 (by decide) (hg _ k215) (fun x9 h9 => u_same (hg _ k216) x9 h9) rfl d_Stack_nextValue_1 ?_
  refine lv_ldc2 (v := 4095) hx hb hown (hg _ k833) d_Stack_nextValue_4 ?_
  refine lv_land hx hb d_Stack_nextValue_7 ?_
  refine lv_topl (fun v_1 ev_1 => ?_)
  refine lv_l2i hx hb d_Stack_nextValue_8 rfl ?_
  refine lv_topi (fun v_2 ev_2 => ?_)
  have z9 : v_2 = nI (X % 4096) := by subst_vars; rw [L_and12 (by omega)]; exact lN_i _
  subst z9
  refine lv_istore_n (lv' := [(2, Value.int (nI (X % 4096))), (0, Value.ref co), (1, Value.int (nI b))]) hx hb d_Stack_nextValue_9 rfl hl (by decide) rfl (fun ls hl => ?_)
  refine lv_sipush (v := 4096) hx hb d_Stack_nextValue_10 (by decide) ?_
  refine lv_iload_n hx hb d_Stack_nextValue_13 rfl (lv_at hl 2 rfl) ?_
  refine lv_ishr hx hb d_Stack_nextValue_14 ?_
  refine lv_topi (fun v_3 ev_3 => ?_)
  have z9 : v_3 = nI (4096 / 2 ^ b) := by rw [ev_3]; exact I_shr (n := 4096) (by decide) (by omega)
  subst z9
  refine lv_istore_n (lv' := [(3, Value.int (nI (4096 / 2 ^ b))), (2, Value.int (nI (X % 4096))), (0, Value.ref co), (1, Value.int (nI b))]) hx hb d_Stack_nextValue_15 rfl hl (by decide) rfl (fun ls hl => ?_)
  refine lv_iload_n hx hb d_Stack_nextValue_16 rfl (lv_at hl 0 rfl) ?_
  refine lv_if_gt (tgt := 22) hx hb d_Stack_nextValue_17 (by decide) (fun c_4 => ?_) (fun c_4 => ?_)
  · refine lv_aload_n hx hb d_Stack_nextValue_22 rfl (lv_at hl 2 rfl) ?_
    refine lv_iload_n hx hb d_Stack_nextValue_23 rfl (lv_at hl 0 rfl) ?_
    refine lv_iload_n hx hb d_Stack_nextValue_24 rfl (lv_at hl 1 rfl) ?_
    refine lv_iload_n hx hb d_Stack_nextValue_25 rfl (lv_at hl 0 rfl) ?_
    refine lv_irem hx hb d_Stack_nextValue_26 (nI_ne0 hq0 (by omega)) ?_
    refine lv_topi (fun v_5 ev_5 => ?_)
    have z9 : v_5 = nI (X % 4096 % (4096 / 2 ^ b)) := by rw [ev_5]; exact pk_rem (by omega) hq0 (by omega)
    subst z9
    refine my_cv (wr := []) (va_runV (As := [Value.int (nI (4096 / 2 ^ b)), Value.int (nI (X % 4096 % (4096 / 2 ^ b)))]) (rest := []) ⟨hx, hb, hml, hown, hts⟩ (f_Stack_unstackPart l dC dI cI cM cO H.size co xx soa sna swa xkept ri ro rw ria rik rif is X q (4096 / 2 ^ b) (X % 4096 % (4096 / 2 ^ b)) (hri) (hGri) (hLri) (hoct) (hX) (hq1) (by omega) (hq)) (cwV 2 hts (my_gV k835 k837 ks16 k10 k838) rfl rfl rfl cu_Stack_unstackPart_2 ⟨by rw [hR]; exact Nat.le_of_ble_eq_true rfl, by rw [hR]; exact Nat.le_of_ble_eq_true rfl⟩) (my_preV hK hN (hP.sub [0, 1, 2] rfl) (hD.sub [0, 1, 2] (by decide +kernel) rfl) 0 rfl rfl) rfl rfl hl.1 rfl (lv_room (Nat.le_of_ble_eq_true rfl)) d_Stack_nextValue_27 ⟨by rw [hR]; exact Nat.le_of_ble_eq_true rfl, by rw [hR]; exact Nat.le_of_ble_eq_true rfl⟩) hP hD hS hA [0, 1, 2] [] rfl rfl (by decide +kernel) (by decide +kernel) (fun u9 H locs hw_27 hP hD hS => ?_)
    have hPD : my_PD (dC, dI) vwCl A [(co, Sum.inr (4, [Value.long xx, Value.long (lN (rfS is (X / 4096 * (4096 / 2 ^ b) + (X % 4096 % (4096 / 2 ^ b)), q)).1), Value.ref soa, Value.ref sna, Value.ref swa, Value.int xkept, Value.ref ri, Value.ref ro, Value.ref rw, Value.int (nI (rfS is (X / 4096 * (4096 / 2 ^ b) + (X % 4096 % (4096 / 2 ^ b)), q)).2)])), (ri, Sum.inr (0, [Value.int (nI is.length), Value.ref ria])), (ria, Sum.inl (cI, rik, Sum.inl rif))] H := ⟨hP, hD⟩
    have hP := hPD.1
    have hD := hPD.2
    refine lv_iload_n hx hb d_Stack_nextValue_30 rfl (lv_at hl 1 rfl) ?_
    refine lv_iload_n hx hb d_Stack_nextValue_31 rfl (lv_at hl 0 rfl) ?_
    refine lv_idiv hx hb d_Stack_nextValue_32 (nI_ne0 hq0 (by omega)) ?_
    refine lv_topi (fun v_6 ev_6 => ?_)
    have z9 : v_6 = nI (X % 4096 / (4096 / 2 ^ b)) := by rw [ev_6]; exact pk_div (by omega) hq0 (by omega)
    subst z9
    exact my_iret (v := (nI (X % 4096 / (4096 / 2 ^ b)))) hx hb hr (rfl) hlocks hQ hK hS (Nat.le_refl _) (Nat.le_refl _) () (rfl) (hP.sub [0, 1, 2] rfl) (hD.sub [0, 1, 2] (by decide +kernel) rfl) d_Stack_nextValue_33
  · exact absurd (nI_pos0 hq0 (by omega)) c_4
set_option maxHeartbeats 2000000 in
set_option maxRecDepth 100000 in
theorem f_Stack_openReading (l : Launch) (dC : Nat → ClassId) (dI : Nat → Nat → Nat) (cI cM cO : ClassId) (sz : Nat) (co : Nat) (xx : Int64) (xreadX : Int64) (soa : Nat) (sna : Nat) (swa : Nat) (xkept : Int32) (ri : Nat) (ro : Nat) (rw : Nat) (xasked : Int32) (ria : Nat) (rik : Nat) (rif : Nat → Int32) (is : List Nat) (hri : rOk (nI is.length) rik) (hGri : gIs rif is) (hLri : is.length ≤ 6000) (hoct : oct is) : MetI l y_Stack_openReading (Cond.code y_Stack_openReading prog_10_method_7_code 1 (some .boolean) :: gw) ({ frames := 4, cells := 0, slots := 0, locals := 86 } : Room) (dC, dI) vwCl (kT cI cM cO) [Value.ref co] [(co, Sum.inr (4, [Value.long xx, Value.long xreadX, Value.ref soa, Value.ref sna, Value.ref swa, Value.int xkept, Value.ref ri, Value.ref ro, Value.ref rw, Value.int xasked])), (ri, Sum.inr (0, [Value.int (nI is.length), Value.ref ria])), (ria, Sum.inl (cI, rik, Sum.inl rif))] sz (fun (r : Int32) (u : Unit) => r = if frN is 0 4 < 8388608 then 0 else 1) (fun (u : Unit) => [(co, Sum.inr (4, [Value.long xx, Value.long (lN (frN is 0 4)), Value.ref soa, Value.ref sna, Value.ref swa, Value.int xkept, Value.ref ri, Value.ref ro, Value.ref rw, Value.int (nI 4)])), (ri, Sum.inr (0, [Value.int (nI is.length), Value.ref ria])), (ria, Sum.inl (cI, rik, Sum.inl rif))]) 0 0 := by
  refine my_ofI (cc := prog_10_method_7_code) (n := 1) (ret := (some .boolean)) (by decide) rfl (Nat.le_of_ble_eq_true rfl) ?_
  intro p e s m args below meth c R Q A ls H locs hx hb hr hts hown hlocks hml hnm hR hQ hA hl hP hK hN hD hS
  have hg : ∀ w ∈ gw, w.before args s = true := fun w h => hts w (List.mem_cons_of_mem _ h)
  have hown : s.vm.findClass "RangeCoders$Stack" = some m.cls := hown
  have hl : lv_has ls 1 [(0, Value.ref co)] := hl
  have hlti := rOk_lt hri
  have hfl := frN_lt hoct 0 4
  refine lv_aload_n hx hb d_Stack_openReading_0 rfl (lv_at hl 0 rfl) ?_
  refine lv_aload_n hx hb d_Stack_openReading_1 rfl (lv_at hl 0 rfl) ?_
  refine my_cl (wr := []) (va_runU (As := []) (rest := [Value.ref co]) ⟨hx, hb, hml, hown, hts⟩ (f_Stack_four l dC dI cI cM cO H.size co xx xreadX soa sna swa xkept ri ro rw xasked ria rik rif is (hri) (hGri) (hLri) (by first | assumption | omega)) (va_cwU 0 hts (my_gU k757 k758 k759 k739 k3 k740) rfl rfl rfl rfl (by decide +kernel) ⟨by rw [hR]; exact Nat.le_of_ble_eq_true rfl, by rw [hR]; exact Nat.le_of_ble_eq_true rfl⟩) (my_preV hK hN (hP.sub [0, 1, 2] rfl) (hD.sub [0, 1, 2] (by decide +kernel) rfl) 0 rfl rfl) rfl rfl hl.1 rfl (lv_room (Nat.le_of_ble_eq_true rfl)) d_Stack_openReading_2 ⟨by rw [hR]; exact Nat.le_of_ble_eq_true rfl, by rw [hR]; exact Nat.le_of_ble_eq_true rfl⟩) hP hD hS hA [0, 1, 2] [] rfl rfl (by decide +kernel) (by decide +kernel) (fun r_2 u9 H locs hw_2 hP hD hS => ?_)
  have hr_2 : r_2 = lN (frN is 0 4) := hw_2
  have hPD : my_PD (dC, dI) vwCl A [(co, Sum.inr (4, [Value.long xx, Value.long xreadX, Value.ref soa, Value.ref sna, Value.ref swa, Value.int xkept, Value.ref ri, Value.ref ro, Value.ref rw, Value.int (nI 4)])), (ri, Sum.inr (0, [Value.int (nI is.length), Value.ref ria])), (ria, Sum.inl (cI, rik, Sum.inl rif))] H := ⟨hP, hD⟩
  have hP := hPD.1
  have hD := hPD.2
  have z9 : r_2 = lN (frN is 0 4) := hr_2
  subst z9
  refine va_put (D := (dC, dI)) (ci := 4) (v := .long (lN (frN is 0 4))) (ty := .long) (C := "RangeCoders$Stack") (T := T_Stack) (N := 10) hx hb hg in_Stack t_Stack o_Stack n_Stack hown hK hP hD hS 0 rfl rfl 1 (by decide) (hg _ k215) (fun x9 h9 => u_same (hg _ k216) x9 h9) rfl (o_Stack 1 (by decide)) rfl rfl (Nat.le_of_ble_eq_true rfl) d_Stack_openReading_5 (fun H locs hP hD hS => ?_)
  have hPD : my_PD (dC, dI) vwCl A [(co, Sum.inr (4, [Value.long xx, Value.long (lN (frN is 0 4)), Value.ref soa, Value.ref sna, Value.ref swa, Value.int xkept, Value.ref ri, Value.ref ro, Value.ref rw, Value.int (nI 4)])), (ri, Sum.inr (0, [Value.int (nI is.length), Value.ref ria])), (ria, Sum.inl (cI, rik, Sum.inl rif))] H := ⟨hP, hD⟩
  have hP := hPD.1
  have hD := hPD.2
  refine lv_aload_n hx hb d_Stack_openReading_8 rfl (lv_at hl 0 rfl) ?_
  refine va_get (D := (dC, dI)) (ci := 4) (v := .long (lN (frN is 0 4))) (C := "RangeCoders$Stack") (T := T_Stack) (N := 10) hx hb hg in_Stack hown hK hP 0 rfl rfl 1 (by decide) (hg _ k215) (fun x9 h9 => u_same (hg _ k216) x9 h9) rfl d_Stack_openReading_9 ?_
  refine lv_ldc2 (v := 8388608) hx hb hown (hg _ k603) d_Stack_openReading_12 ?_
  refine W.lcmp hx hb d_Stack_openReading_15 ?_
  refine lv_if_lt (tgt := 23) hx hb d_Stack_openReading_16 (by decide) (fun c_1 => ?_) (fun c_1 => ?_)
  · rw [lg_cmp_lt] at c_1
    refine lv_iconst (v := 0) hx hb d_Stack_openReading_23 (by decide) ?_
    exact my_iret (v := 0) hx hb hr (rfl) hlocks hQ hK hS (Nat.le_refl _) (Nat.le_refl _) () (by rw [if_pos ((L_lt (b := 8388608) (by omega) (by decide)).mp c_1)]) (hP.sub [0, 1, 2] rfl) (hD.sub [0, 1, 2] (by decide +kernel) rfl) d_Stack_openReading_24
  · rw [lg_cmp_lt] at c_1
    refine lv_iconst (v := 1) hx hb d_Stack_openReading_19 (by decide) ?_
    refine lv_goto (tgt := 24) hx hb d_Stack_openReading_20 (by decide) ?_
    exact my_iret (v := 1) hx hb hr (rfl) hlocks hQ hK hS (Nat.le_refl _) (Nat.le_refl _) () (by rw [if_neg (fun z => absurd ((L_lt (b := 8388608) (by omega) (by decide)).mpr z) c_1)]) (hP.sub [0, 1, 2] rfl) (hD.sub [0, 1, 2] (by decide +kernel) rfl) d_Stack_openReading_24
end
section
set_option maxHeartbeats 2000000 in
set_option maxRecDepth 100000 in
theorem f_Table_nextInBit (l : Launch) (dC : Nat → ClassId) (dI : Nat → Nat → Nat) (cI cM cO : ClassId) (sz : Nat) (co : Nat) (xx : Int64) (xreadX : Int64) (soa : Nat) (sna : Nat) (swa : Nat) (xkept : Int32) (ri : Nat) (ro : Nat) (rw : Nat) (ria : Nat) (rik : Nat) (rif : Nat → Int32) (is : List Nat) (t : Nat) (hri : rOk (nI is.length) rik) (hGri : gIs rif is) (hLri : is.length ≤ 6000) (hoct : oct is) (ht : t < 1000000000) : MetI l y_Table_nextInBit (Cond.code y_Table_nextInBit prog_12_method_14_code 3 (some .int) :: gw) ({ frames := 2, cells := 0, slots := 0, locals := 42 } : Room) (dC, dI) vwCl (kT cI cM cO) [Value.ref co] [(co, Sum.inr (5, [Value.long xx, Value.long xreadX, Value.ref soa, Value.ref sna, Value.ref swa, Value.int xkept, Value.ref ri, Value.ref ro, Value.ref rw, Value.int (nI t)])), (ri, Sum.inr (0, [Value.int (nI is.length), Value.ref ria])), (ria, Sum.inl (cI, rik, Sum.inl rif))] sz (fun (r : Int32) (u : Unit) => r = nI (biA is t)) (fun (u : Unit) => [(co, Sum.inr (5, [Value.long xx, Value.long xreadX, Value.ref soa, Value.ref sna, Value.ref swa, Value.int xkept, Value.ref ri, Value.ref ro, Value.ref rw, Value.int (nI (t + 1))])), (ri, Sum.inr (0, [Value.int (nI is.length), Value.ref ria])), (ria, Sum.inl (cI, rik, Sum.inl rif))]) 0 0 := by
  refine my_ofI (cc := prog_12_method_14_code) (n := 3) (ret := (some .int)) (by decide) rfl (Nat.le_of_ble_eq_true rfl) ?_
  intro p e s m args below meth c R Q A ls H locs hx hb hr hts hown hlocks hml hnm hR hQ hA hl hP hK hN hD hS
  have hg : ∀ w ∈ gw, w.before args s = true := fun w h => hts w (List.mem_cons_of_mem _ h)
  have hown : s.vm.findClass "RangeCoders$Table" = some m.cls := hown
  have hl : lv_has ls 3 [(0, Value.ref co)] := hl
  have hlti := rOk_lt hri
  have hob := hoct (t / 8)
  refine lv_aload_n hx hb d_Table_nextInBit_0 rfl (lv_at hl 0 rfl) ?_
  refine va_get (D := (dC, dI)) (ci := 5) (v := .int (nI t)) (C := "RangeCoders$Table") (T := T_Table) (N := 10) hx hb hg in_Table hown hK hP 0 rfl rfl 9 (by decide) (hg _ k126) (fun x9 h9 => u_same (hg _ k127) x9 h9) rfl d_Table_nextInBit_1 ?_
  refine lv_bipush (v := 8) hx hb d_Table_nextInBit_4 (by decide) ?_
  refine lv_idiv hx hb d_Table_nextInBit_6 (by decide) ?_
  refine lv_topi (fun v_1 ev_1 => ?_)
  have z9 : v_1 = nI (t / 8) := by rw [ev_1]; exact tb_8 (by omega)
  subst z9
  refine lv_istore_n (lv' := [(1, Value.int (nI (t / 8))), (0, Value.ref co)]) hx hb d_Table_nextInBit_7 rfl hl (by decide) rfl (fun ls hl => ?_)
  refine lv_aload_n hx hb d_Table_nextInBit_8 rfl (lv_at hl 1 rfl) ?_
  refine va_get (D := (dC, dI)) (ci := 5) (v := .ref ri) (C := "RangeCoders$Table") (T := T_Table) (N := 10) hx hb hg in_Table hown hK hP 0 rfl rfl 6 (by decide) (hg _ k103) (fun x9 h9 => u_same (hg _ k104) x9 h9) rfl d_Table_nextInBit_9 ?_
  refine lv_iload_n hx hb d_Table_nextInBit_12 rfl (lv_at hl 0 rfl) ?_
  refine my_ci (wr := [(co, Sum.inr (5, [Value.long xx, Value.long xreadX, Value.ref soa, Value.ref sna, Value.ref swa, Value.int xkept, Value.ref ri, Value.ref ro, Value.ref rw, Value.int (nI t)]))]) (va_runV (As := [Value.int (nI (t / 8))]) (rest := []) ⟨hx, hb, hml, hown, hts⟩ (f_Row_has l dC dI cI cM cO H.size ri ria rik rif is (nI (t / 8)) (hri) (hGri) (by omega)) (cwV 1 hts (my_gV k676 k663 k664 k6 k665) rfl rfl rfl cu_Row_has_1 ⟨by rw [hR]; exact Nat.le_of_ble_eq_true rfl, by rw [hR]; exact Nat.le_of_ble_eq_true rfl⟩) (my_preV hK hN (hP.sub [1, 2] rfl) (hD.sub [1, 2] (by decide +kernel) rfl) 0 rfl rfl) rfl rfl hl.1 rfl (lv_room (Nat.le_of_ble_eq_true rfl)) d_Table_nextInBit_13 ⟨by rw [hR]; exact Nat.le_of_ble_eq_true rfl, by rw [hR]; exact Nat.le_of_ble_eq_true rfl⟩) hP hD hS hA [1, 2] [0] rfl rfl (by decide +kernel) (by decide +kernel) (fun r_13 u9 H locs hw_13 hP hD hS => ?_)
  obtain ⟨hr_13, hv_13⟩ : (r_13 = if 0 ≤ (nI (t / 8)) ∧ (nI (t / 8)) < nI is.length then 1 else 0) ∧ (r_13 ≠ 0 → vp_in (nI (t / 8)) rik) := hw_13
  have hPD : my_PD (dC, dI) vwCl A [(co, Sum.inr (5, [Value.long xx, Value.long xreadX, Value.ref soa, Value.ref sna, Value.ref swa, Value.int xkept, Value.ref ri, Value.ref ro, Value.ref rw, Value.int (nI t)])), (ri, Sum.inr (0, [Value.int (nI is.length), Value.ref ria])), (ria, Sum.inl (cI, rik, Sum.inl rif))] H := ⟨hP, hD⟩
  have hP := hPD.1
  have hD := hPD.2
  refine lv_if_eq (tgt := 43) hx hb d_Table_nextInBit_16 (by decide) (fun c_2 => ?_) (fun c_2 => ?_)
  · refine lv_iconst (v := 0) hx hb d_Table_nextInBit_43 (by decide) ?_
    refine W.eq (g2 := F0 m 44 ls [Value.int (nI (biA is t))]) (by rw [show biA is t = 0 from by unfold biA; rw [nb_0 (by omega) (one_eq hr_13 c_2)]; exact (by rw [Nat.zero_div])]; rfl) ?_
    refine lv_istore_n (lv' := [(2, Value.int (nI (biA is t))), (1, Value.int (nI (t / 8))), (0, Value.ref co)]) hx hb d_Table_nextInBit_44 rfl hl (by decide) rfl (fun ls hl => ?_)
    refine lv_aload_n hx hb d_Table_nextInBit_45 rfl (lv_at hl 2 rfl) ?_
    refine lv_dup hx hb d_Table_nextInBit_46 rfl ?_
    refine va_get (D := (dC, dI)) (ci := 5) (v := .int (nI t)) (C := "RangeCoders$Table") (T := T_Table) (N := 10) hx hb hg in_Table hown hK hP 0 rfl rfl 9 (by decide) (hg _ k126) (fun x9 h9 => u_same (hg _ k127) x9 h9) rfl d_Table_nextInBit_47 ?_
    refine lv_iconst (v := 1) hx hb d_Table_nextInBit_50 (by decide) ?_
    refine lv_iadd hx hb d_Table_nextInBit_51 ?_
    refine lv_topi (fun v_3 ev_3 => ?_)
    have z9 : v_3 = nI (t + 1) := by rw [ev_3]; exact nI_1 _
    subst z9
    refine va_put (D := (dC, dI)) (ci := 5) (v := .int (nI (t + 1))) (ty := .int) (C := "RangeCoders$Table") (T := T_Table) (N := 10) hx hb hg in_Table t_Table o_Table n_Table hown hK hP hD hS 0 rfl rfl 9 (by decide) (hg _ k126) (fun x9 h9 => u_same (hg _ k127) x9 h9) rfl (o_Table 9 (by decide)) rfl rfl (Nat.le_of_ble_eq_true rfl) d_Table_nextInBit_52 (fun H locs hP hD hS => ?_)
    have hPD : my_PD (dC, dI) vwCl A [(co, Sum.inr (5, [Value.long xx, Value.long xreadX, Value.ref soa, Value.ref sna, Value.ref swa, Value.int xkept, Value.ref ri, Value.ref ro, Value.ref rw, Value.int (nI (t + 1))])), (ri, Sum.inr (0, [Value.int (nI is.length), Value.ref ria])), (ria, Sum.inl (cI, rik, Sum.inl rif))] H := ⟨hP, hD⟩
    have hP := hPD.1
    have hD := hPD.2
    refine lv_iload_n hx hb d_Table_nextInBit_55 rfl (lv_at hl 0 rfl) ?_
    exact my_iret (v := nI (biA is t)) hx hb hr (rfl) hlocks hQ hK hS (Nat.le_refl _) (Nat.le_refl _) () (rfl) (hP.sub [0, 1, 2] rfl) (hD.sub [0, 1, 2] (by decide +kernel) rfl) d_Table_nextInBit_56
  · refine lv_aload_n hx hb d_Table_nextInBit_19 rfl (lv_at hl 1 rfl) ?_
    refine va_get (D := (dC, dI)) (ci := 5) (v := .ref ri) (C := "RangeCoders$Table") (T := T_Table) (N := 10) hx hb hg in_Table hown hK hP 0 rfl rfl 6 (by decide) (hg _ k103) (fun x9 h9 => u_same (hg _ k104) x9 h9) rfl d_Table_nextInBit_20 ?_
    refine lv_iload_n hx hb d_Table_nextInBit_23 rfl (lv_at hl 0 rfl) ?_
    refine my_ci (wr := [(co, Sum.inr (5, [Value.long xx, Value.long xreadX, Value.ref soa, Value.ref sna, Value.ref swa, Value.int xkept, Value.ref ri, Value.ref ro, Value.ref rw, Value.int (nI t)]))]) (va_runV (As := [Value.int (nI (t / 8))]) (rest := []) ⟨hx, hb, hml, hown, hts⟩ (f_Row_at l dC dI cI cM cO H.size ri ria rik rif is (nI (t / 8)) (hri) (hGri) (by omega)) (cwV 1 hts (my_gV k677 k659 k660 k6 k661) rfl rfl rfl cu_Row_at_1 ⟨by rw [hR]; exact Nat.le_of_ble_eq_true rfl, by rw [hR]; exact Nat.le_of_ble_eq_true rfl⟩) (my_preV hK hN (hP.sub [1, 2] rfl) (hD.sub [1, 2] (by decide +kernel) rfl) 0 rfl rfl) rfl rfl hl.1 rfl (lv_room (Nat.le_of_ble_eq_true rfl)) d_Table_nextInBit_24 ⟨by rw [hR]; exact Nat.le_of_ble_eq_true rfl, by rw [hR]; exact Nat.le_of_ble_eq_true rfl⟩) hP hD hS hA [1, 2] [0] rfl rfl (by decide +kernel) (by decide +kernel) (fun r_24 u9 H locs hw_24 hP hD hS => ?_)
    have hr_24 : r_24 = rAt is (nI (t / 8)) := hw_24
    have hPD : my_PD (dC, dI) vwCl A [(co, Sum.inr (5, [Value.long xx, Value.long xreadX, Value.ref soa, Value.ref sna, Value.ref swa, Value.int xkept, Value.ref ri, Value.ref ro, Value.ref rw, Value.int (nI t)])), (ri, Sum.inr (0, [Value.int (nI is.length), Value.ref ria])), (ria, Sum.inl (cI, rik, Sum.inl rif))] H := ⟨hP, hD⟩
    have hP := hPD.1
    have hD := hPD.2
    have z9 : r_24 = nI (byA is (t / 8)) := by rw [hr_24]; exact rAt_nI (nb_lt (by omega) (by omega) (one_ne hr_13 c_2)) (by omega)
    subst z9
    refine lv_bipush (v := 7) hx hb d_Table_nextInBit_27 (by decide) ?_
    refine lv_aload_n hx hb d_Table_nextInBit_29 rfl (lv_at hl 1 rfl) ?_
    refine va_get (D := (dC, dI)) (ci := 5) (v := .int (nI t)) (C := "RangeCoders$Table") (T := T_Table) (N := 10) hx hb hg in_Table hown hK hP 0 rfl rfl 9 (by decide) (hg _ k126) (fun x9 h9 => u_same (hg _ k127) x9 h9) rfl d_Table_nextInBit_30 ?_
    refine lv_bipush (v := 8) hx hb d_Table_nextInBit_33 (by decide) ?_
    refine lv_irem hx hb d_Table_nextInBit_35 (by decide) ?_
    refine lv_topi (fun v_4 ev_4 => ?_)
    refine lv_isub hx hb d_Table_nextInBit_36 ?_
    refine lv_topi (fun v_5 ev_5 => ?_)
    refine lv_iushr hx hb d_Table_nextInBit_37 rfl ?_
    refine lv_topi (fun v_6 ev_6 => ?_)
    refine lv_iconst (v := 1) hx hb d_Table_nextInBit_38 (by decide) ?_
    refine lv_iand hx hb d_Table_nextInBit_39 ?_
    refine lv_topi (fun v_7 ev_7 => ?_)
    have hbv9 : v_7 = nI (biA is t) := by
      subst_vars
      rw [tb_m8 (t := t) (by omega), show (7 : Int32) - nI (t % 8) = nI (7 - t % 8) from pk_sub (a := 7) (by omega), I_ushr (by have := hoct (t / 8); omega) (by omega)]
      exact I_and1 (Nat.lt_of_le_of_lt (Nat.div_le_self _ _) (by have := hoct (t / 8); omega))
    refine lv_goto (tgt := 44) hx hb d_Table_nextInBit_40 (by decide) ?_
    have z9 : v_7 = nI (biA is t) := hbv9
    subst z9
    refine lv_istore_n (lv' := [(2, Value.int (nI (biA is t))), (1, Value.int (nI (t / 8))), (0, Value.ref co)]) hx hb d_Table_nextInBit_44 rfl hl (by decide) rfl (fun ls hl => ?_)
    refine lv_aload_n hx hb d_Table_nextInBit_45 rfl (lv_at hl 2 rfl) ?_
    refine lv_dup hx hb d_Table_nextInBit_46 rfl ?_
    refine va_get (D := (dC, dI)) (ci := 5) (v := .int (nI t)) (C := "RangeCoders$Table") (T := T_Table) (N := 10) hx hb hg in_Table hown hK hP 0 rfl rfl 9 (by decide) (hg _ k126) (fun x9 h9 => u_same (hg _ k127) x9 h9) rfl d_Table_nextInBit_47 ?_
    refine lv_iconst (v := 1) hx hb d_Table_nextInBit_50 (by decide) ?_
    refine lv_iadd hx hb d_Table_nextInBit_51 ?_
    refine lv_topi (fun v_8 ev_8 => ?_)
    have z9 : v_8 = nI (t + 1) := by rw [ev_8]; exact nI_1 _
    subst z9
    refine va_put (D := (dC, dI)) (ci := 5) (v := .int (nI (t + 1))) (ty := .int) (C := "RangeCoders$Table") (T := T_Table) (N := 10) hx hb hg in_Table t_Table o_Table n_Table hown hK hP hD hS 0 rfl rfl 9 (by decide) (hg _ k126) (fun x9 h9 => u_same (hg _ k127) x9 h9) rfl (o_Table 9 (by decide)) rfl rfl (Nat.le_of_ble_eq_true rfl) d_Table_nextInBit_52 (fun H locs hP hD hS => ?_)
    have hPD : my_PD (dC, dI) vwCl A [(co, Sum.inr (5, [Value.long xx, Value.long xreadX, Value.ref soa, Value.ref sna, Value.ref swa, Value.int xkept, Value.ref ri, Value.ref ro, Value.ref rw, Value.int (nI (t + 1))])), (ri, Sum.inr (0, [Value.int (nI is.length), Value.ref ria])), (ria, Sum.inl (cI, rik, Sum.inl rif))] H := ⟨hP, hD⟩
    have hP := hPD.1
    have hD := hPD.2
    refine lv_iload_n hx hb d_Table_nextInBit_55 rfl (lv_at hl 0 rfl) ?_
    exact my_iret (v := (nI (biA is t))) hx hb hr (rfl) hlocks hQ hK hS (Nat.le_refl _) (Nat.le_refl _) () (rfl) (hP.sub [0, 1, 2] rfl) (hD.sub [0, 1, 2] (by decide +kernel) rfl) d_Table_nextInBit_56
set_option maxHeartbeats 2000000 in
set_option maxRecDepth 100000 in
theorem f_Table_nextValue (l : Launch) (dC : Nat → ClassId) (dI : Nat → Nat → Nat) (cI cM cO : ClassId) (sz : Nat) (co : Nat) (xx : Int64) (xreadX : Int64) (soa : Nat) (sna : Nat) (swa : Nat) (xkept : Int32) (ri : Nat) (ro : Nat) (rw : Nat) (ria : Nat) (rik : Nat) (rif : Nat → Int32) (is : List Nat) (t : Nat) (b : Nat) (hri : rOk (nI is.length) rik) (hGri : gIs rif is) (hLri : is.length ≤ 6000) (hoct : oct is) (ht : t < 900000000) (hb : b ≤ 12) : MetI l y_Table_nextValue (Cond.code y_Table_nextValue prog_12_method_12_code 4 (some .int) :: gw) ({ frames := 3, cells := 0, slots := 0, locals := 64 } : Room) (dC, dI) vwCl (kT cI cM cO) [Value.ref co, Value.int (nI b)] [(co, Sum.inr (5, [Value.long xx, Value.long xreadX, Value.ref soa, Value.ref sna, Value.ref swa, Value.int xkept, Value.ref ri, Value.ref ro, Value.ref rw, Value.int (nI t)])), (ri, Sum.inr (0, [Value.int (nI is.length), Value.ref ria])), (ria, Sum.inl (cI, rik, Sum.inl rif))] sz (fun (r : Int32) (u : Unit) => r = nI (bbN is t b)) (fun (u : Unit) => [(co, Sum.inr (5, [Value.long xx, Value.long xreadX, Value.ref soa, Value.ref sna, Value.ref swa, Value.int xkept, Value.ref ri, Value.ref ro, Value.ref rw, Value.int (nI (t + b))])), (ri, Sum.inr (0, [Value.int (nI is.length), Value.ref ria])), (ria, Sum.inl (cI, rik, Sum.inl rif))]) 0 0 := by
  refine my_ofI (cc := prog_12_method_12_code) (n := 4) (ret := (some .int)) (by decide) rfl (Nat.le_of_ble_eq_true rfl) ?_
  intro p e s m args below meth c R Q A ls H locs hx hb hr hts hown hlocks hml hnm hR hQ hA hl hP hK hN hD hS
  have hg : ∀ w ∈ gw, w.before args s = true := fun w h => hts w (List.mem_cons_of_mem _ h)
  have hown : s.vm.findClass "RangeCoders$Table" = some m.cls := hown
  have hl : lv_has ls 4 [(0, Value.ref co), (1, Value.int (nI b))] := hl
  have hlti := rOk_lt hri
  refine lv_iconst (v := 0) hx hb d_Table_nextValue_0 (by decide) ?_
  refine lv_istore_n (lv' := [(2, Value.int 0), (0, Value.ref co), (1, Value.int (nI b))]) hx hb d_Table_nextValue_1 rfl hl (by decide) rfl (fun ls hl => ?_)
  refine lv_iconst (v := 0) hx hb d_Table_nextValue_2 (by decide) ?_
  refine lv_istore_n (lv' := [(3, Value.int 0), (2, Value.int 0), (0, Value.ref co), (1, Value.int (nI b))]) hx hb d_Table_nextValue_3 rfl hl (by decide) rfl (fun ls hl => ?_)
  have J_4 : ∀ (n9_4 : Nat) (j : Nat) (hn9_4 : b - j = n9_4) (hj : j ≤ b) (H : Heap) (locs : List Loc) (ls : Array Slot), va_P (dC, dI) vwCl [(co, Sum.inr (5, [Value.long xx, Value.long xreadX, Value.ref soa, Value.ref sna, Value.ref swa, Value.int xkept, Value.ref ri, Value.ref ro, Value.ref rw, Value.int (nI (t + j))])), (ri, Sum.inr (0, [Value.int (nI is.length), Value.ref ria])), (ria, Sum.inl (cI, rik, Sum.inl rif))] H → va_D A [(co, Sum.inr (5, [Value.long xx, Value.long xreadX, Value.ref soa, Value.ref sna, Value.ref swa, Value.int xkept, Value.ref ri, Value.ref ro, Value.ref rw, Value.int (nI (t + j))])), (ri, Sum.inr (0, [Value.int (nI is.length), Value.ref ria])), (ria, Sum.inl (cI, rik, Sum.inl rif))] → va_S A s.heap H locs → lv_has ls 4 [(3, Value.int (nI j)), (2, Value.int (nI (bbN is t j))), (0, Value.ref co), (1, Value.int (nI b))] → W p l e R s m args below meth c H locs 0 0 Q (F0 m 4 ls []) := by
    intro n9_4
    induction n9_4 using Nat.strongRecOn with
    | ind n9_4 ih9_4 =>
      intro j hn9_4 hj H locs ls hP hD hS hl
      refine lv_iload_n hx hb d_Table_nextValue_4 rfl (lv_at hl 0 rfl) ?_
      refine lv_iload_n hx hb d_Table_nextValue_5 rfl (lv_at hl 3 rfl) ?_
      refine lv_icmp_ge (tgt := 24) hx hb d_Table_nextValue_6 (by decide) (fun c_1 => ?_) (fun c_1 => ?_)
      · have hj3 : b = j := by have := nI_ge' (by omega) (by omega) c_1; omega
        subst hj3
        have hPD : my_PD (dC, dI) vwCl A [(co, Sum.inr (5, [Value.long xx, Value.long xreadX, Value.ref soa, Value.ref sna, Value.ref swa, Value.int xkept, Value.ref ri, Value.ref ro, Value.ref rw, Value.int (nI (t + b))])), (ri, Sum.inr (0, [Value.int (nI is.length), Value.ref ria])), (ria, Sum.inl (cI, rik, Sum.inl rif))] H := ⟨hP, hD⟩
        have hP := hPD.1
        have hD := hPD.2
        refine lv_iload_n hx hb d_Table_nextValue_24 rfl (lv_at hl 1 rfl) ?_
        exact my_iret (v := nI (bbN is t b)) hx hb hr (rfl) hlocks hQ hK hS (Nat.le_refl _) (Nat.le_refl _) () (rfl) (hP.sub [0, 1, 2] rfl) (hD.sub [0, 1, 2] (by decide +kernel) rfl) d_Table_nextValue_25
      · have hj2 : j < b := nI_lt' (by omega) c_1
        refine lv_iconst (v := 2) hx hb d_Table_nextValue_9 (by decide) ?_
        refine lv_iload_n hx hb d_Table_nextValue_10 rfl (lv_at hl 1 rfl) ?_
        refine lv_imul hx hb d_Table_nextValue_11 ?_
        refine lv_topi (fun v_2 ev_2 => ?_)
        refine lv_aload_n hx hb d_Table_nextValue_12 rfl (lv_at hl 2 rfl) ?_
        refine my_ci (wr := []) (va_runV (As := []) (rest := [Value.int v_2]) ⟨hx, hb, hml, hown, hts⟩ (f_Table_nextInBit l dC dI cI cM cO H.size co xx xreadX soa sna swa xkept ri ro rw ria rik rif is (t + j) (hri) (hGri) (hLri) (hoct) (by omega)) (cwV 0 hts (my_gV k767 k769 ks12 k11 k770) rfl rfl rfl cu_Table_nextInBit_0 ⟨by rw [hR]; exact Nat.le_of_ble_eq_true rfl, by rw [hR]; exact Nat.le_of_ble_eq_true rfl⟩) (my_preV hK hN (hP.sub [0, 1, 2] rfl) (hD.sub [0, 1, 2] (by decide +kernel) rfl) 0 rfl rfl) rfl rfl hl.1 rfl (lv_room (Nat.le_of_ble_eq_true rfl)) d_Table_nextValue_13 ⟨by rw [hR]; exact Nat.le_of_ble_eq_true rfl, by rw [hR]; exact Nat.le_of_ble_eq_true rfl⟩) hP hD hS hA [0, 1, 2] [] rfl rfl (by decide +kernel) (by decide +kernel) (fun r_13 u9 H locs hw_13 hP hD hS => ?_)
        have hr_13 : r_13 = nI (biA is (t + j)) := hw_13
        have hPD : my_PD (dC, dI) vwCl A [(co, Sum.inr (5, [Value.long xx, Value.long xreadX, Value.ref soa, Value.ref sna, Value.ref swa, Value.int xkept, Value.ref ri, Value.ref ro, Value.ref rw, Value.int (nI ((t + j) + 1))])), (ri, Sum.inr (0, [Value.int (nI is.length), Value.ref ria])), (ria, Sum.inl (cI, rik, Sum.inl rif))] H := ⟨hP, hD⟩
        have hP := hPD.1
        have hD := hPD.2
        have z9 : r_13 = nI (biA is (t + j)) := hr_13
        subst z9
        refine lv_iadd hx hb d_Table_nextValue_16 ?_
        refine lv_topi (fun v_3 ev_3 => ?_)
        have z9 : v_3 = nI (bbN is t (j + 1)) := by subst_vars; rw [show (2 : Int32) * nI (bbN is t j) = nI (2 * bbN is t j) from pk_mul 2 _]; exact nI_add _ _
        subst z9
        refine lv_istore_n (lv' := [(2, Value.int (nI (bbN is t (j + 1)))), (3, Value.int (nI j)), (0, Value.ref co), (1, Value.int (nI b))]) hx hb d_Table_nextValue_17 rfl hl (by decide) rfl (fun ls hl => ?_)
        obtain ⟨v_4, ev_4⟩ : ∃ y : Int32, y = (nI j) + (1) := ⟨_, rfl⟩
        refine lv_iinc (v := v_4) (lv' := [(3, Value.int v_4), (2, Value.int (nI (bbN is t (j + 1)))), (0, Value.ref co), (1, Value.int (nI b))]) hx hb d_Table_nextValue_18 hl (k := 1) rfl (by rw [ev_4]; rfl) (by decide) rfl (fun ls hl => ?_)
        have z9 : v_4 = nI (j + 1) := by rw [ev_4]; exact nI_1 _
        subst z9
        refine lv_goto (tgt := 4) hx hb d_Table_nextValue_21 (by decide) ?_
        exact ih9_4 _ (by first | omega | (omega)) (j + 1) rfl (by omega) H locs ls (hP.sub [0, 1, 2] rfl) (hD.sub [0, 1, 2] (by decide +kernel) rfl) hS (lv_sub hl [0, 1, 2, 3] rfl)
  exact J_4 _ (0 : Nat) rfl (Nat.zero_le _) H locs ls (hP.sub [0, 1, 2] rfl) (hD.sub [0, 1, 2] (by decide +kernel) rfl) hS (lv_sub hl [0, 1, 2, 3] rfl)
set_option maxHeartbeats 2000000 in
set_option maxRecDepth 100000 in
theorem f_Table_openReading (l : Launch) (dC : Nat → ClassId) (dI : Nat → Nat → Nat) (cI cM cO : ClassId) (sz : Nat) (co : Nat) (xx : Int64) (xreadX : Int64) (soa : Nat) (sna : Nat) (swa : Nat) (xkept : Int32) (ri : Nat) (ro : Nat) (rw : Nat) (xasked : Int32) (ria : Nat) (rik : Nat) (rif : Nat → Int32) (is : List Nat) (hri : rOk (nI is.length) rik) (hGri : gIs rif is) (hLri : is.length ≤ 6000) (hoct : oct is) : MetI l y_Table_openReading (Cond.code y_Table_openReading prog_12_method_10_code 1 (some .boolean) :: gw) ({ frames := 4, cells := 0, slots := 0, locals := 87 } : Room) (dC, dI) vwCl (kT cI cM cO) [Value.ref co] [(co, Sum.inr (5, [Value.long xx, Value.long xreadX, Value.ref soa, Value.ref sna, Value.ref swa, Value.int xkept, Value.ref ri, Value.ref ro, Value.ref rw, Value.int xasked])), (ri, Sum.inr (0, [Value.int (nI is.length), Value.ref ria])), (ria, Sum.inl (cI, rik, Sum.inl rif))] sz (fun (r : Int32) (u : Unit) => r = 1) (fun (u : Unit) => [(co, Sum.inr (5, [Value.long xx, Value.long (lN (512 + bbN is 0 9)), Value.ref soa, Value.ref sna, Value.ref swa, Value.int xkept, Value.ref ri, Value.ref ro, Value.ref rw, Value.int (nI 9)])), (ri, Sum.inr (0, [Value.int (nI is.length), Value.ref ria])), (ria, Sum.inl (cI, rik, Sum.inl rif))]) 0 0 := by
  refine my_ofI (cc := prog_12_method_10_code) (n := 1) (ret := (some .boolean)) (by decide) rfl (Nat.le_of_ble_eq_true rfl) ?_
  intro p e s m args below meth c R Q A ls H locs hx hb hr hts hown hlocks hml hnm hR hQ hA hl hP hK hN hD hS
  have hg : ∀ w ∈ gw, w.before args s = true := fun w h => hts w (List.mem_cons_of_mem _ h)
  have hown : s.vm.findClass "RangeCoders$Table" = some m.cls := hown
  have hl : lv_has ls 1 [(0, Value.ref co)] := hl
  have hlti := rOk_lt hri
  have hb9 := bbN_lt is 0 9
  refine lv_aload_n hx hb d_Table_openReading_0 rfl (lv_at hl 0 rfl) ?_
  refine lv_iconst (v := 0) hx hb d_Table_openReading_1 (by decide) ?_
  refine va_put (D := (dC, dI)) (ci := 5) (v := .int 0) (ty := .int) (C := "RangeCoders$Table") (T := T_Table) (N := 10) hx hb hg in_Table t_Table o_Table n_Table hown hK hP hD hS 0 rfl rfl 9 (by decide) (hg _ k126) (fun x9 h9 => u_same (hg _ k127) x9 h9) rfl (o_Table 9 (by decide)) rfl rfl (Nat.le_of_ble_eq_true rfl) d_Table_openReading_2 (fun H locs hP hD hS => ?_)
  have hPD : my_PD (dC, dI) vwCl A [(co, Sum.inr (5, [Value.long xx, Value.long xreadX, Value.ref soa, Value.ref sna, Value.ref swa, Value.int xkept, Value.ref ri, Value.ref ro, Value.ref rw, Value.int 0])), (ri, Sum.inr (0, [Value.int (nI is.length), Value.ref ria])), (ria, Sum.inl (cI, rik, Sum.inl rif))] H := ⟨hP, hD⟩
  have hP := hPD.1
  have hD := hPD.2
  refine lv_aload_n hx hb d_Table_openReading_5 rfl (lv_at hl 0 rfl) ?_
  refine lv_sipush (v := 512) hx hb d_Table_openReading_6 (by decide) ?_
  refine lv_aload_n hx hb d_Table_openReading_9 rfl (lv_at hl 0 rfl) ?_
  refine lv_bipush (v := 9) hx hb d_Table_openReading_10 (by decide) ?_
  refine W.eq (g2 := F0 m 12 ls [Value.int (nI 9), Value.ref co, Value.int 512, Value.ref co]) rfl ?_
  refine my_ci (wr := []) (va_runV (As := [Value.int (nI 9)]) (rest := [Value.int 512, Value.ref co]) ⟨hx, hb, hml, hown, hts⟩ (f_Table_nextValue l dC dI cI cM cO H.size co xx xreadX soa sna swa xkept ri ro rw ria rik rif is 0 9 (hri) (hGri) (hLri) (hoct) (by decide) (by decide)) (cwV 1 hts (my_gV k763 k764 k765 k11 k766) rfl rfl rfl cu_Table_nextValue_1 ⟨by rw [hR]; exact Nat.le_of_ble_eq_true rfl, by rw [hR]; exact Nat.le_of_ble_eq_true rfl⟩) (my_preV hK hN (hP.sub [0, 1, 2] rfl) (hD.sub [0, 1, 2] (by decide +kernel) rfl) 0 rfl rfl) rfl rfl hl.1 rfl (lv_room (Nat.le_of_ble_eq_true rfl)) d_Table_openReading_12 ⟨by rw [hR]; exact Nat.le_of_ble_eq_true rfl, by rw [hR]; exact Nat.le_of_ble_eq_true rfl⟩) hP hD hS hA [0, 1, 2] [] rfl rfl (by decide +kernel) (by decide +kernel) (fun r_12 u9 H locs hw_12 hP hD hS => ?_)
  have hr_12 : r_12 = nI (bbN is 0 9) := hw_12
  have hPD : my_PD (dC, dI) vwCl A [(co, Sum.inr (5, [Value.long xx, Value.long xreadX, Value.ref soa, Value.ref sna, Value.ref swa, Value.int xkept, Value.ref ri, Value.ref ro, Value.ref rw, Value.int (nI (0 + 9))])), (ri, Sum.inr (0, [Value.int (nI is.length), Value.ref ria])), (ria, Sum.inl (cI, rik, Sum.inl rif))] H := ⟨hP, hD⟩
  have hP := hPD.1
  have hD := hPD.2
  have z9 : r_12 = nI (bbN is 0 9) := hr_12
  subst z9
  refine lv_iadd hx hb d_Table_openReading_15 ?_
  refine lv_topi (fun v_1 ev_1 => ?_)
  have z9 : v_1 = nI (512 + bbN is 0 9) := by rw [ev_1]; exact nI_add 512 _
  subst z9
  refine lv_i2l hx hb d_Table_openReading_16 rfl ?_
  refine lv_topl (fun v_2 ev_2 => ?_)
  have z9 : v_2 = lN (512 + bbN is 0 9) := by rw [ev_2]; exact nI_l (by omega)
  subst z9
  refine va_put (D := (dC, dI)) (ci := 5) (v := .long (lN (512 + bbN is 0 9))) (ty := .long) (C := "RangeCoders$Table") (T := T_Table) (N := 10) hx hb hg in_Table t_Table o_Table n_Table hown hK hP hD hS 0 rfl rfl 1 (by decide) (hg _ k218) (fun x9 h9 => u_same (hg _ k219) x9 h9) rfl (o_Table 1 (by decide)) rfl rfl (Nat.le_of_ble_eq_true rfl) d_Table_openReading_17 (fun H locs hP hD hS => ?_)
  have hPD : my_PD (dC, dI) vwCl A [(co, Sum.inr (5, [Value.long xx, Value.long (lN (512 + bbN is 0 9)), Value.ref soa, Value.ref sna, Value.ref swa, Value.int xkept, Value.ref ri, Value.ref ro, Value.ref rw, Value.int (nI (0 + 9))])), (ri, Sum.inr (0, [Value.int (nI is.length), Value.ref ria])), (ria, Sum.inl (cI, rik, Sum.inl rif))] H := ⟨hP, hD⟩
  have hP := hPD.1
  have hD := hPD.2
  refine lv_iconst (v := 1) hx hb d_Table_openReading_20 (by decide) ?_
  exact my_iret (v := 1) hx hb hr (rfl) hlocks hQ hK hS (Nat.le_refl _) (Nat.le_refl _) () (rfl) (hP.sub [0, 1, 2] rfl) (hD.sub [0, 1, 2] (by decide +kernel) rfl) d_Table_openReading_21
set_option maxHeartbeats 2000000 in
set_option maxRecDepth 100000 in
theorem f_Odds_signOfPlace (l : Launch) (dC : Nat → ClassId) (dI : Nat → Nat → Nat) (cI cM cO : ClassId) (sz : Nat) (oo : Nat) (osg : Int32) (ofc : Int32) (oca : Nat) (opa : Nat) (n : Nat) (ocf : Nat → Int32) (opl : Nat) (opf : Nat → Int32) (osm : Int32) (P : Nat → Nat) (p9 : Nat) (hn : n ≤ 64) (hpl : opl ≤ 512) (hop : tbI opf 512 P) (hPb : ∀ p, p < 512 → P p < 64) (hp9 : p9 < 512) : MetI l y_Odds_signOfPlace (Cond.code y_Odds_signOfPlace prog_7_method_12_code 2 (some .int) :: gw) ({ frames := 0, cells := 0, slots := 0, locals := 0 } : Room) (dC, dI) vwCl (kT cI cM cO) [Value.ref oo, Value.int (nI p9)] [(oo, Sum.inr (7, [Value.int osg, Value.int osm, Value.int ofc, Value.ref oca, Value.ref opa])), (oca, Sum.inl (cI, n, Sum.inl ocf)), (opa, Sum.inl (cI, 512, Sum.inl opf))] sz (fun (r : Int32) (u : Unit) => r = nI (P p9)) (fun (u : Unit) => [(oo, Sum.inr (7, [Value.int osg, Value.int osm, Value.int ofc, Value.ref oca, Value.ref opa])), (oca, Sum.inl (cI, n, Sum.inl ocf)), (opa, Sum.inl (cI, 512, Sum.inl opf))]) 0 0 := by
  refine my_ofI (cc := prog_7_method_12_code) (n := 2) (ret := (some .int)) (by decide) rfl (Nat.le_of_ble_eq_true rfl) ?_
  intro p e s m args below meth c R Q A ls H locs hx hb hr hts hown hlocks hml hnm hR hQ hA hl hP hK hN hD hS
  have hg : ∀ w ∈ gw, w.before args s = true := fun w h => hts w (List.mem_cons_of_mem _ h)
  have hown : s.vm.findClass "RangeCoders$Odds" = some m.cls := hown
  have hl : lv_has ls 2 [(0, Value.ref oo), (1, Value.int (nI p9))] := hl
  refine lv_iload_n hx hb d_Odds_signOfPlace_0 rfl (lv_at hl 1 rfl) ?_
  refine lv_if_lt (tgt := 22) hx hb d_Odds_signOfPlace_1 (by decide) (fun c_1 => ?_) (fun c_1 => ?_)
  · exact absurd c_1 (nI_pos (by omega))
  · refine lv_iload_n hx hb d_Odds_signOfPlace_4 rfl (lv_at hl 1 rfl) ?_
    refine lv_aload_n hx hb d_Odds_signOfPlace_5 rfl (lv_at hl 0 rfl) ?_
    refine va_get (D := (dC, dI)) (ci := 7) (v := .ref opa) (C := "RangeCoders$Odds") (T := T_Odds) (N := 5) hx hb hg in_Odds hown hK hP 0 rfl rfl 4 (by decide) (hg _ k310) (fun _ h9 => h9) rfl d_Odds_signOfPlace_6 ?_
    refine va_alen hx hb hK hP 2 0 rfl rfl (v := nI 512) rfl d_Odds_signOfPlace_9 ?_
    refine lv_icmp_ge (tgt := 22) hx hb d_Odds_signOfPlace_10 (by decide) (fun c_2 => ?_) (fun c_2 => ?_)
    · exact absurd (nI_ge' (n := 512) (by omega) (by decide) c_2) (by omega)
    · refine lv_aload_n hx hb d_Odds_signOfPlace_13 rfl (lv_at hl 0 rfl) ?_
      refine va_get (D := (dC, dI)) (ci := 7) (v := .ref opa) (C := "RangeCoders$Odds") (T := T_Odds) (N := 5) hx hb hg in_Odds hown hK hP 0 rfl rfl 4 (by decide) (hg _ k310) (fun _ h9 => h9) rfl d_Odds_signOfPlace_14 ?_
      refine lv_iload_n hx hb d_Odds_signOfPlace_17 rfl (lv_at hl 1 rfl) ?_
      refine va_iald hx hb hK hP 2 0 rfl rfl (vp_in_nI hp9 (by decide)) d_Odds_signOfPlace_18 ?_
      refine lv_topi (fun v_3 ev_3 => ?_)
      refine lv_goto (tgt := 23) hx hb d_Odds_signOfPlace_19 (by decide) ?_
      exact my_iret (v := v_3) hx hb hr (rfl) hlocks hQ hK hS (Nat.le_refl _) (Nat.le_refl _) () (by rw [ev_3]; exact tb_rd hop hp9 (by omega)) (hP.sub [0, 1, 2] rfl) (hD.sub [0, 1, 2] (by decide +kernel) rfl) d_Odds_signOfPlace_23
set_option maxHeartbeats 2000000 in
set_option maxRecDepth 100000 in
theorem f_Odds_numberOfPlace (l : Launch) (dC : Nat → ClassId) (dI : Nat → Nat → Nat) (cI cM cO : ClassId) (sz : Nat) (oo : Nat) (osg : Int32) (ofc : Int32) (oca : Nat) (opa : Nat) (n : Nat) (ocf : Nat → Int32) (opl : Nat) (opf : Nat → Int32) (osm : Int32) (P : Nat → Nat) (p9 : Nat) (hn : n ≤ 64) (hpl : opl ≤ 512) (hop : tbI opf 512 P) (hPb : ∀ p, p < 512 → P p < 64) (hp9 : p9 < 512) : MetI l y_Odds_numberOfPlace (Cond.code y_Odds_numberOfPlace prog_7_method_13_code 5 (some .int) :: gw) ({ frames := 1, cells := 0, slots := 0, locals := 21 } : Room) (dC, dI) vwCl (kT cI cM cO) [Value.ref oo, Value.int (nI p9)] [(oo, Sum.inr (7, [Value.int osg, Value.int osm, Value.int ofc, Value.ref oca, Value.ref opa])), (oca, Sum.inl (cI, n, Sum.inl ocf)), (opa, Sum.inl (cI, 512, Sum.inl opf))] sz (fun (r : Int32) (u : Unit) => r = nI (cn P (P p9) p9)) (fun (u : Unit) => [(oo, Sum.inr (7, [Value.int osg, Value.int osm, Value.int ofc, Value.ref oca, Value.ref opa])), (oca, Sum.inl (cI, n, Sum.inl ocf)), (opa, Sum.inl (cI, 512, Sum.inl opf))]) 0 0 := by
  refine my_ofI (cc := prog_7_method_13_code) (n := 5) (ret := (some .int)) (by decide) rfl (Nat.le_of_ble_eq_true rfl) ?_
  intro p e s m args below meth c R Q A ls H locs hx hb hr hts hown hlocks hml hnm hR hQ hA hl hP hK hN hD hS
  have hg : ∀ w ∈ gw, w.before args s = true := fun w h => hts w (List.mem_cons_of_mem _ h)
  have hown : s.vm.findClass "RangeCoders$Odds" = some m.cls := hown
  have hl : lv_has ls 5 [(0, Value.ref oo), (1, Value.int (nI p9))] := hl
  refine lv_aload_n hx hb d_Odds_numberOfPlace_0 rfl (lv_at hl 0 rfl) ?_
  refine lv_iload_n hx hb d_Odds_numberOfPlace_1 rfl (lv_at hl 1 rfl) ?_
  refine my_ci (wr := []) (va_runV (As := [Value.int (nI p9)]) (rest := []) ⟨hx, hb, hml, hown, hts⟩ (f_Odds_signOfPlace l dC dI cI cM cO H.size oo osg ofc oca opa n ocf 512 opf osm P p9 (by first | assumption | omega) (by decide) (hop) (hPb) (by first | assumption | omega)) (cwV 1 hts (my_gV k853 k846 k847 k14 k848) rfl rfl rfl cu_Odds_signOfPlace_1 ⟨by rw [hR]; exact Nat.le_of_ble_eq_true rfl, by rw [hR]; exact Nat.le_of_ble_eq_true rfl⟩) (my_preV hK hN (hP.sub [0, 1, 2] rfl) (hD.sub [0, 1, 2] (by decide +kernel) rfl) 0 rfl rfl) rfl rfl hl.1 rfl (lv_room (Nat.le_of_ble_eq_true rfl)) d_Odds_numberOfPlace_2 ⟨by rw [hR]; exact Nat.le_of_ble_eq_true rfl, by rw [hR]; exact Nat.le_of_ble_eq_true rfl⟩) hP hD hS hA [0, 1, 2] [] rfl rfl (by decide +kernel) (by decide +kernel) (fun r_2 u9 H locs hw_2 hP hD hS => ?_)
  have hr_2 : r_2 = nI (P p9) := hw_2
  have hPD : my_PD (dC, dI) vwCl A [(oo, Sum.inr (7, [Value.int osg, Value.int osm, Value.int ofc, Value.ref oca, Value.ref opa])), (oca, Sum.inl (cI, n, Sum.inl ocf)), (opa, Sum.inl (cI, 512, Sum.inl opf))] H := ⟨hP, hD⟩
  have hP := hPD.1
  have hD := hPD.2
  have z9 : r_2 = nI (P p9) := hr_2
  subst z9
  refine lv_istore_n (lv' := [(2, Value.int (nI (P p9))), (0, Value.ref oo), (1, Value.int (nI p9))]) hx hb d_Odds_numberOfPlace_5 rfl hl (by decide) rfl (fun ls hl => ?_)
  refine lv_iconst (v := 0) hx hb d_Odds_numberOfPlace_6 (by decide) ?_
  refine lv_istore_n (lv' := [(3, Value.int 0), (2, Value.int (nI (P p9))), (0, Value.ref oo), (1, Value.int (nI p9))]) hx hb d_Odds_numberOfPlace_7 rfl hl (by decide) rfl (fun ls hl => ?_)
  refine lv_iconst (v := 0) hx hb d_Odds_numberOfPlace_8 (by decide) ?_
  refine lv_istore (lv' := [(4, Value.int 0), (3, Value.int 0), (2, Value.int (nI (P p9))), (0, Value.ref oo), (1, Value.int (nI p9))]) hx hb d_Odds_numberOfPlace_9 hl (by decide) rfl (fun ls hl => ?_)
  have J_11 : ∀ (n9_11 : Nat) (j : Nat) (hn9_11 : p9 - j = n9_11) (hj : j ≤ p9) (H : Heap) (locs : List Loc) (ls : Array Slot), va_P (dC, dI) vwCl [(oo, Sum.inr (7, [Value.int osg, Value.int osm, Value.int ofc, Value.ref oca, Value.ref opa])), (oca, Sum.inl (cI, n, Sum.inl ocf)), (opa, Sum.inl (cI, 512, Sum.inl opf))] H → va_D A [(oo, Sum.inr (7, [Value.int osg, Value.int osm, Value.int ofc, Value.ref oca, Value.ref opa])), (oca, Sum.inl (cI, n, Sum.inl ocf)), (opa, Sum.inl (cI, 512, Sum.inl opf))] → va_S A s.heap H locs → lv_has ls 5 [(4, Value.int (nI j)), (3, Value.int (nI (cn P (P p9) j))), (2, Value.int (nI (P p9))), (0, Value.ref oo), (1, Value.int (nI p9))] → W p l e R s m args below meth c H locs 0 0 Q (F0 m 11 ls []) := by
    intro n9_11
    induction n9_11 using Nat.strongRecOn with
    | ind n9_11 ih9_11 =>
      intro j hn9_11 hj H locs ls hP hD hS hl
      have hcl := cn_le P (P p9) j
      have hPp := hPb p9 hp9
      refine lv_iload hx hb d_Odds_numberOfPlace_11 (lv_at hl 0 rfl) ?_
      refine lv_iload_n hx hb d_Odds_numberOfPlace_13 rfl (lv_at hl 4 rfl) ?_
      refine lv_icmp_ge (tgt := 47) hx hb d_Odds_numberOfPlace_14 (by decide) (fun c_1 => ?_) (fun c_1 => ?_)
      · have hj3 : p9 = j := by have := nI_ge' (by omega) (by omega) c_1; omega
        subst hj3
        have hPD : my_PD (dC, dI) vwCl A [(oo, Sum.inr (7, [Value.int osg, Value.int osm, Value.int ofc, Value.ref oca, Value.ref opa])), (oca, Sum.inl (cI, n, Sum.inl ocf)), (opa, Sum.inl (cI, 512, Sum.inl opf))] H := ⟨hP, hD⟩
        have hP := hPD.1
        have hD := hPD.2
        refine lv_iload_n hx hb d_Odds_numberOfPlace_47 rfl (lv_at hl 1 rfl) ?_
        exact my_iret (v := nI (cn P (P p9) p9)) hx hb hr (rfl) hlocks hQ hK hS (Nat.le_refl _) (Nat.le_refl _) () (rfl) (hP.sub [0, 1, 2] rfl) (hD.sub [0, 1, 2] (by decide +kernel) rfl) d_Odds_numberOfPlace_48
      · have hj2 : j < p9 := nI_lt' (by omega) c_1
        refine lv_iload hx hb d_Odds_numberOfPlace_17 (lv_at hl 0 rfl) ?_
        refine lv_aload_n hx hb d_Odds_numberOfPlace_19 rfl (lv_at hl 3 rfl) ?_
        refine va_get (D := (dC, dI)) (ci := 7) (v := .ref opa) (C := "RangeCoders$Odds") (T := T_Odds) (N := 5) hx hb hg in_Odds hown hK hP 0 rfl rfl 4 (by decide) (hg _ k310) (fun _ h9 => h9) rfl d_Odds_numberOfPlace_20 ?_
        refine va_alen hx hb hK hP 2 0 rfl rfl (v := nI 512) rfl d_Odds_numberOfPlace_23 ?_
        refine lv_icmp_ge (tgt := 47) hx hb d_Odds_numberOfPlace_24 (by decide) (fun c_2 => ?_) (fun c_2 => ?_)
        · exact absurd (nI_ge' (n := 512) (by omega) (by decide) c_2) (by omega)
        · refine lv_aload_n hx hb d_Odds_numberOfPlace_27 rfl (lv_at hl 3 rfl) ?_
          refine va_get (D := (dC, dI)) (ci := 7) (v := .ref opa) (C := "RangeCoders$Odds") (T := T_Odds) (N := 5) hx hb hg in_Odds hown hK hP 0 rfl rfl 4 (by decide) (hg _ k310) (fun _ h9 => h9) rfl d_Odds_numberOfPlace_28 ?_
          refine lv_iload hx hb d_Odds_numberOfPlace_31 (lv_at hl 0 rfl) ?_
          refine va_iald hx hb hK hP 2 0 rfl rfl (vp_in_nI (show j < 512 by omega) (by decide)) d_Odds_numberOfPlace_33 ?_
          refine lv_topi (fun v_3 ev_3 => ?_)
          have z9 : v_3 = nI (P j) := by rw [ev_3]; exact tb_rd hop (show j < 512 by omega) (by omega)
          subst z9
          refine lv_iload_n hx hb d_Odds_numberOfPlace_34 rfl (lv_at hl 2 rfl) ?_
          refine lv_icmp_ne (tgt := 41) hx hb d_Odds_numberOfPlace_35 (by decide) (fun c_4 => ?_) (fun c_4 => ?_)
          · have hPj := hPb j (by omega)
            have hpe : ¬ P j = P p9 := fun z => c_4 (by rw [z])
            have hc8 : cn P (P p9) (j + 1) = cn P (P p9) j := by rw [cn, if_neg hpe]
            have hl : lv_has ls 5 [(4, Value.int (nI j)), (3, Value.int (nI (cn P (P p9) (j + 1)))), (2, Value.int (nI (P p9))), (0, Value.ref oo), (1, Value.int (nI p9))] := by rw [← hc8] at hl; exact hl
            obtain ⟨v_5, ev_5⟩ : ∃ y : Int32, y = (nI j) + (1) := ⟨_, rfl⟩
            refine lv_iinc (v := v_5) (lv' := [(4, Value.int v_5), (3, Value.int (nI (cn P (P p9) (j + 1)))), (2, Value.int (nI (P p9))), (0, Value.ref oo), (1, Value.int (nI p9))]) hx hb d_Odds_numberOfPlace_41 hl (k := 0) rfl (by rw [ev_5]; rfl) (by decide) rfl (fun ls hl => ?_)
            have z9 : v_5 = nI (j + 1) := by rw [ev_5]; exact nI_1 _
            subst z9
            refine lv_goto (tgt := 11) hx hb d_Odds_numberOfPlace_44 (by decide) ?_
            exact ih9_11 _ (by first | omega | (omega)) (j + 1) rfl (by omega) H locs ls (hP.sub [0, 1, 2] rfl) (hD.sub [0, 1, 2] (by decide +kernel) rfl) hS (lv_sub hl [0, 1, 2, 3, 4] rfl)
          · have hPj := hPb j (by omega)
            have hpe : P j = P p9 := (nI_eq (by omega) (by omega)).mp c_4
            obtain ⟨v_6, ev_6⟩ : ∃ y : Int32, y = (nI (cn P (P p9) j)) + (1) := ⟨_, rfl⟩
            refine lv_iinc (v := v_6) (lv' := [(3, Value.int v_6), (4, Value.int (nI j)), (2, Value.int (nI (P p9))), (0, Value.ref oo), (1, Value.int (nI p9))]) hx hb d_Odds_numberOfPlace_38 hl (k := 1) rfl (by rw [ev_6]; rfl) (by decide) rfl (fun ls hl => ?_)
            have z9 : v_6 = nI (cn P (P p9) (j + 1)) := by rw [ev_6, cn, if_pos hpe]; exact nI_1 _
            subst z9
            obtain ⟨v_7, ev_7⟩ : ∃ y : Int32, y = (nI j) + (1) := ⟨_, rfl⟩
            refine lv_iinc (v := v_7) (lv' := [(4, Value.int v_7), (3, Value.int (nI (cn P (P p9) (j + 1)))), (2, Value.int (nI (P p9))), (0, Value.ref oo), (1, Value.int (nI p9))]) hx hb d_Odds_numberOfPlace_41 hl (k := 1) rfl (by rw [ev_7]; rfl) (by decide) rfl (fun ls hl => ?_)
            have z9 : v_7 = nI (j + 1) := by rw [ev_7]; exact nI_1 _
            subst z9
            refine lv_goto (tgt := 11) hx hb d_Odds_numberOfPlace_44 (by decide) ?_
            exact ih9_11 _ (by first | omega | (omega)) (j + 1) rfl (by omega) H locs ls (hP.sub [0, 1, 2] rfl) (hD.sub [0, 1, 2] (by decide +kernel) rfl) hS (lv_sub hl [0, 1, 2, 3, 4] rfl)
  exact J_11 _ (0 : Nat) rfl (Nat.zero_le _) H locs ls (hP.sub [0, 1, 2] rfl) (hD.sub [0, 1, 2] (by decide +kernel) rfl) hS (lv_sub hl [0, 1, 2, 3, 4] rfl)
set_option maxHeartbeats 2000000 in
set_option maxRecDepth 100000 in
theorem f_Table_nextSign (l : Launch) (dC : Nat → ClassId) (dI : Nat → Nat → Nat) (cI cM cO : ClassId) (sz : Nat) (co : Nat) (xx : Int64) (soa : Nat) (sna : Nat) (swa : Nat) (xkept : Int32) (ri : Nat) (ro : Nat) (rw : Nat) (ria : Nat) (rik : Nat) (rif : Nat → Int32) (is : List Nat) (X : Nat) (t : Nat) (oo : Nat) (osg : Int32) (ofc : Int32) (oca : Nat) (opa : Nat) (n : Nat) (ocf : Nat → Int32) (opf : Nat → Int32) (F : Nat → Nat) (hri : rOk (nI is.length) rik) (hGri : gIs rif is) (hLri : is.length ≤ 6000) (hoct : oct is) (hn : n ≤ 64) (hf : tbI ocf n F) (hfc0 : ofc = 0) (hsum : ns F n = 512) (hop : tbI opf 512 (plc F n)) (hX0 : 512 ≤ X) (hX1 : X < 1024) (ht : t < 900000000) : MetI l y_Table_nextSign (Cond.code y_Table_nextSign prog_12_method_11_code 5 (some .int) :: gw) ({ frames := 3, cells := 0, slots := 0, locals := 64 } : Room) (dC, dI) vwCl (kT cI cM cO) [Value.ref co, Value.ref oo] [(co, Sum.inr (5, [Value.long xx, Value.long (lN X), Value.ref soa, Value.ref sna, Value.ref swa, Value.int xkept, Value.ref ri, Value.ref ro, Value.ref rw, Value.int (nI t)])), (ri, Sum.inr (0, [Value.int (nI is.length), Value.ref ria])), (ria, Sum.inl (cI, rik, Sum.inl rif)), (oo, Sum.inr (7, [Value.int osg, Value.int (nI (ns F n)), Value.int ofc, Value.ref oca, Value.ref opa])), (oca, Sum.inl (cI, n, Sum.inl ocf)), (opa, Sum.inl (cI, 512, Sum.inl opf))] sz (fun (r : Int32) (u : Unit) => r = oI (gt4 is n F X t).1) (fun (u : Unit) => [(co, Sum.inr (5, [Value.long xx, Value.long (lN (gt4 is n F X t).2.1), Value.ref soa, Value.ref sna, Value.ref swa, Value.int xkept, Value.ref ri, Value.ref ro, Value.ref rw, Value.int (nI (gt4 is n F X t).2.2)])), (ri, Sum.inr (0, [Value.int (nI is.length), Value.ref ria])), (ria, Sum.inl (cI, rik, Sum.inl rif)), (oo, Sum.inr (7, [Value.int osg, Value.int (nI (ns F n)), Value.int ofc, Value.ref oca, Value.ref opa])), (oca, Sum.inl (cI, n, Sum.inl ocf)), (opa, Sum.inl (cI, 512, Sum.inl opf))]) 0 0 := by
  refine my_ofI (cc := prog_12_method_11_code) (n := 5) (ret := (some .int)) (by decide) rfl (Nat.le_of_ble_eq_true rfl) ?_
  intro p e s m args below meth c R Q A ls H locs hx hb hr hts hown hlocks hml hnm hR hQ hA hl hP hK hN hD hS
  have hg : ∀ w ∈ gw, w.before args s = true := fun w h => hts w (List.mem_cons_of_mem _ h)
  have hown : s.vm.findClass "RangeCoders$Table" = some m.cls := hown
  have hl : lv_has ls 5 [(0, Value.ref co), (1, Value.ref oo)] := hl
  have hlti := rOk_lt hri
  have hq5 : ∀ p, p < 512 → plc F n p < 64 := fun p _ => Nat.lt_of_lt_of_le (plc_lt hsum) hn
  have hps := plc_lt (p := X - 512) hsum
  have hng := ns_ge (F := F) hps
  have hnl := cn_le (plc F n) (plc F n (X - 512)) (X - 512)
  have hnn : num F n (X - 512) = cn (plc F n) (plc F n (X - 512)) (X - 512) := rfl
  refine lv_aload_n hx hb d_Table_nextSign_0 rfl (lv_at hl 1 rfl) ?_
  refine va_get (D := (dC, dI)) (ci := 7) (v := .int (nI (ns F n))) (C := "RangeCoders$Odds") (T := T_Odds) (N := 5) hx hb hg in_Odds hown hK hP 3 rfl rfl 1 (by decide) (hg _ k307) (fun _ h9 => h9) rfl d_Table_nextSign_1 ?_
  refine lv_if_gt (tgt := 9) hx hb d_Table_nextSign_4 (by decide) (fun c_1 => ?_) (fun c_1 => ?_)
  · refine lv_aload_n hx hb d_Table_nextSign_9 rfl (lv_at hl 0 rfl) ?_
    refine va_get (D := (dC, dI)) (ci := 5) (v := .long (lN X)) (C := "RangeCoders$Table") (T := T_Table) (N := 10) hx hb hg in_Table hown hK hP 0 rfl rfl 1 (by decide) (hg _ k218) (fun x9 h9 => u_same (hg _ k219) x9 h9) rfl d_Table_nextSign_10 ?_
    refine lv_l2i hx hb d_Table_nextSign_13 rfl ?_
    refine lv_topi (fun v_2 ev_2 => ?_)
    refine lv_sipush (v := 512) hx hb d_Table_nextSign_14 (by decide) ?_
    refine lv_isub hx hb d_Table_nextSign_17 ?_
    refine lv_topi (fun v_3 ev_3 => ?_)
    have z9 : v_3 = nI (X - 512) := by subst_vars; rw [lN_i]; exact pk_sub (b := 512) hX0
    subst z9
    refine lv_istore_n (lv' := [(2, Value.int (nI (X - 512))), (0, Value.ref co), (1, Value.ref oo)]) hx hb d_Table_nextSign_18 rfl hl (by decide) rfl (fun ls hl => ?_)
    refine lv_aload_n hx hb d_Table_nextSign_19 rfl (lv_at hl 2 rfl) ?_
    refine lv_iload_n hx hb d_Table_nextSign_20 rfl (lv_at hl 0 rfl) ?_
    refine my_ci (wr := [(co, Sum.inr (5, [Value.long xx, Value.long (lN X), Value.ref soa, Value.ref sna, Value.ref swa, Value.int xkept, Value.ref ri, Value.ref ro, Value.ref rw, Value.int (nI t)])), (ri, Sum.inr (0, [Value.int (nI is.length), Value.ref ria])), (ria, Sum.inl (cI, rik, Sum.inl rif))]) (va_runV (As := [Value.int (nI (X - 512))]) (rest := []) ⟨hx, hb, hml, hown, hts⟩ (f_Odds_signOfPlace l dC dI cI cM cO H.size oo osg ofc oca opa n ocf 512 opf (nI (ns F n)) (plc F n) (X - 512) (by first | assumption | omega) (by decide) (hop) (hq5) (by omega)) (cwV 1 hts (my_gV k845 k846 k847 k14 k848) rfl rfl rfl cu_Odds_signOfPlace_1 ⟨by rw [hR]; exact Nat.le_of_ble_eq_true rfl, by rw [hR]; exact Nat.le_of_ble_eq_true rfl⟩) (my_preV hK hN (hP.sub [3, 4, 5] rfl) (hD.sub [3, 4, 5] (by decide +kernel) rfl) 0 rfl rfl) rfl rfl hl.1 rfl (lv_room (Nat.le_of_ble_eq_true rfl)) d_Table_nextSign_21 ⟨by rw [hR]; exact Nat.le_of_ble_eq_true rfl, by rw [hR]; exact Nat.le_of_ble_eq_true rfl⟩) hP hD hS hA [3, 4, 5] [0, 1, 2] rfl rfl (by decide +kernel) (by decide +kernel) (fun r_21 u9 H locs hw_21 hP hD hS => ?_)
    have hr_21 : r_21 = nI ((plc F n) (X - 512)) := hw_21
    have hPD : my_PD (dC, dI) vwCl A [(co, Sum.inr (5, [Value.long xx, Value.long (lN X), Value.ref soa, Value.ref sna, Value.ref swa, Value.int xkept, Value.ref ri, Value.ref ro, Value.ref rw, Value.int (nI t)])), (ri, Sum.inr (0, [Value.int (nI is.length), Value.ref ria])), (ria, Sum.inl (cI, rik, Sum.inl rif)), (oo, Sum.inr (7, [Value.int osg, Value.int (nI (ns F n)), Value.int ofc, Value.ref oca, Value.ref opa])), (oca, Sum.inl (cI, n, Sum.inl ocf)), (opa, Sum.inl (cI, 512, Sum.inl opf))] H := ⟨hP, hD⟩
    have hP := hPD.1
    have hD := hPD.2
    have z9 : r_21 = nI (plc F n (X - 512)) := hr_21
    subst z9
    refine lv_istore_n (lv' := [(3, Value.int (nI (plc F n (X - 512)))), (2, Value.int (nI (X - 512))), (0, Value.ref co), (1, Value.ref oo)]) hx hb d_Table_nextSign_24 rfl hl (by decide) rfl (fun ls hl => ?_)
    refine lv_aload_n hx hb d_Table_nextSign_25 rfl (lv_at hl 2 rfl) ?_
    refine lv_aload_n hx hb d_Table_nextSign_26 rfl (lv_at hl 3 rfl) ?_
    refine lv_iload_n hx hb d_Table_nextSign_27 rfl (lv_at hl 0 rfl) ?_
    refine my_ci (wr := [(co, Sum.inr (5, [Value.long xx, Value.long (lN X), Value.ref soa, Value.ref sna, Value.ref swa, Value.int xkept, Value.ref ri, Value.ref ro, Value.ref rw, Value.int (nI t)])), (ri, Sum.inr (0, [Value.int (nI is.length), Value.ref ria])), (ria, Sum.inl (cI, rik, Sum.inl rif))]) (va_runV (As := [Value.int (nI (plc F n (X - 512)))]) (rest := [Value.ref co]) ⟨hx, hb, hml, hown, hts⟩ (f_Odds_at l dC dI cI cM cO H.size oo osg ofc oca opa n ocf 512 opf (nI (ns F n)) (plc F n (X - 512)) (by first | assumption | omega) (by decide) (hps) (by rw [hfc0]; exact nI_pos' (by omega))) (cwV 1 hts (my_gV k641 k436 k437 k14 k438) rfl rfl rfl cu_Odds_at_1 ⟨by rw [hR]; exact Nat.le_of_ble_eq_true rfl, by rw [hR]; exact Nat.le_of_ble_eq_true rfl⟩) (my_preV hK hN (hP.sub [3, 4, 5] rfl) (hD.sub [3, 4, 5] (by decide +kernel) rfl) 0 rfl rfl) rfl rfl hl.1 rfl (lv_room (Nat.le_of_ble_eq_true rfl)) d_Table_nextSign_28 ⟨by rw [hR]; exact Nat.le_of_ble_eq_true rfl, by rw [hR]; exact Nat.le_of_ble_eq_true rfl⟩) hP hD hS hA [3, 4, 5] [0, 1, 2] rfl rfl (by decide +kernel) (by decide +kernel) (fun r_28 u9 H locs hw_28 hP hD hS => ?_)
    have hr_28 : r_28 = ocf (plc F n (X - 512)) := hw_28
    have hPD : my_PD (dC, dI) vwCl A [(co, Sum.inr (5, [Value.long xx, Value.long (lN X), Value.ref soa, Value.ref sna, Value.ref swa, Value.int xkept, Value.ref ri, Value.ref ro, Value.ref rw, Value.int (nI t)])), (ri, Sum.inr (0, [Value.int (nI is.length), Value.ref ria])), (ria, Sum.inl (cI, rik, Sum.inl rif)), (oo, Sum.inr (7, [Value.int osg, Value.int (nI (ns F n)), Value.int ofc, Value.ref oca, Value.ref opa])), (oca, Sum.inl (cI, n, Sum.inl ocf)), (opa, Sum.inl (cI, 512, Sum.inl opf))] H := ⟨hP, hD⟩
    have hP := hPD.1
    have hD := hPD.2
    rw [hf (plc F n (X - 512)) hps] at hr_28
    have z9 : r_28 = nI (F (plc F n (X - 512))) := hr_28
    subst z9
    refine lv_aload_n hx hb d_Table_nextSign_31 rfl (lv_at hl 3 rfl) ?_
    refine lv_iload_n hx hb d_Table_nextSign_32 rfl (lv_at hl 1 rfl) ?_
    refine my_ci (wr := [(co, Sum.inr (5, [Value.long xx, Value.long (lN X), Value.ref soa, Value.ref sna, Value.ref swa, Value.int xkept, Value.ref ri, Value.ref ro, Value.ref rw, Value.int (nI t)])), (ri, Sum.inr (0, [Value.int (nI is.length), Value.ref ria])), (ria, Sum.inl (cI, rik, Sum.inl rif))]) (va_runV (As := [Value.int (nI (X - 512))]) (rest := [Value.int (nI (F (plc F n (X - 512)))), Value.ref co]) ⟨hx, hb, hml, hown, hts⟩ (f_Odds_numberOfPlace l dC dI cI cM cO H.size oo osg ofc oca opa n ocf 512 opf (nI (ns F n)) (plc F n) (X - 512) (by first | assumption | omega) (by decide) (hop) (hq5) (by omega)) (cwV 1 hts (my_gV k849 k850 k851 k14 k852) rfl rfl rfl cu_Odds_numberOfPlace_1 ⟨by rw [hR]; exact Nat.le_of_ble_eq_true rfl, by rw [hR]; exact Nat.le_of_ble_eq_true rfl⟩) (my_preV hK hN (hP.sub [3, 4, 5] rfl) (hD.sub [3, 4, 5] (by decide +kernel) rfl) 0 rfl rfl) rfl rfl hl.1 rfl (lv_room (Nat.le_of_ble_eq_true rfl)) d_Table_nextSign_33 ⟨by rw [hR]; exact Nat.le_of_ble_eq_true rfl, by rw [hR]; exact Nat.le_of_ble_eq_true rfl⟩) hP hD hS hA [3, 4, 5] [0, 1, 2] rfl rfl (by decide +kernel) (by decide +kernel) (fun r_33 u9 H locs hw_33 hP hD hS => ?_)
    have hr_33 : r_33 = nI (cn (plc F n) ((plc F n) (X - 512)) (X - 512)) := hw_33
    have hPD : my_PD (dC, dI) vwCl A [(co, Sum.inr (5, [Value.long xx, Value.long (lN X), Value.ref soa, Value.ref sna, Value.ref swa, Value.int xkept, Value.ref ri, Value.ref ro, Value.ref rw, Value.int (nI t)])), (ri, Sum.inr (0, [Value.int (nI is.length), Value.ref ria])), (ria, Sum.inl (cI, rik, Sum.inl rif)), (oo, Sum.inr (7, [Value.int osg, Value.int (nI (ns F n)), Value.int ofc, Value.ref oca, Value.ref opa])), (oca, Sum.inl (cI, n, Sum.inl ocf)), (opa, Sum.inl (cI, 512, Sum.inl opf))] H := ⟨hP, hD⟩
    have hP := hPD.1
    have hD := hPD.2
    have z9 : r_33 = nI (num F n (X - 512)) := hr_33
    subst z9
    refine lv_iadd hx hb d_Table_nextSign_36 ?_
    refine lv_topi (fun v_4 ev_4 => ?_)
    have z9 : v_4 = nI (F (plc F n (X - 512)) + num F n (X - 512)) := by rw [ev_4]; exact nI_add _ _
    subst z9
    refine lv_i2l hx hb d_Table_nextSign_37 rfl ?_
    refine lv_topl (fun v_5 ev_5 => ?_)
    have z9 : v_5 = lN (F (plc F n (X - 512)) + num F n (X - 512)) := by rw [ev_5]; exact nI_l (by omega)
    subst z9
    refine va_put (D := (dC, dI)) (ci := 5) (v := .long (lN (F (plc F n (X - 512)) + num F n (X - 512)))) (ty := .long) (C := "RangeCoders$Table") (T := T_Table) (N := 10) hx hb hg in_Table t_Table o_Table n_Table hown hK hP hD hS 0 rfl rfl 1 (by decide) (hg _ k218) (fun x9 h9 => u_same (hg _ k219) x9 h9) rfl (o_Table 1 (by decide)) rfl rfl (Nat.le_of_ble_eq_true rfl) d_Table_nextSign_38 (fun H locs hP hD hS => ?_)
    have hPD : my_PD (dC, dI) vwCl A [(co, Sum.inr (5, [Value.long xx, Value.long (lN (F (plc F n (X - 512)) + num F n (X - 512))), Value.ref soa, Value.ref sna, Value.ref swa, Value.int xkept, Value.ref ri, Value.ref ro, Value.ref rw, Value.int (nI t)])), (ri, Sum.inr (0, [Value.int (nI is.length), Value.ref ria])), (ria, Sum.inl (cI, rik, Sum.inl rif)), (oo, Sum.inr (7, [Value.int osg, Value.int (nI (ns F n)), Value.int ofc, Value.ref oca, Value.ref opa])), (oca, Sum.inl (cI, n, Sum.inl ocf)), (opa, Sum.inl (cI, 512, Sum.inl opf))] H := ⟨hP, hD⟩
    have hP := hPD.1
    have hD := hPD.2
    refine lv_iconst (v := 0) hx hb d_Table_nextSign_41 (by decide) ?_
    refine lv_istore (lv' := [(4, Value.int 0), (3, Value.int (nI (plc F n (X - 512)))), (2, Value.int (nI (X - 512))), (0, Value.ref co), (1, Value.ref oo)]) hx hb d_Table_nextSign_42 hl (by decide) rfl (fun ls hl => ?_)
    have J_44 : ∀ (n9_44 : Nat) (e9 : Nat × Nat) (k9 : Nat) (hn9_44 : k9 = n9_44) (hE9 : tbS is (F (plc F n (X - 512)) + num F n (X - 512), t) = tbN is k9 e9) (hk8 : k9 ≤ 10) (hX9 : e9.1 < 4096) (hq9 : e9.2 + k9 ≤ 900000010) (H : Heap) (locs : List Loc) (ls : Array Slot), va_P (dC, dI) vwCl [(co, Sum.inr (5, [Value.long xx, Value.long (lN e9.1), Value.ref soa, Value.ref sna, Value.ref swa, Value.int xkept, Value.ref ri, Value.ref ro, Value.ref rw, Value.int (nI e9.2)])), (ri, Sum.inr (0, [Value.int (nI is.length), Value.ref ria])), (ria, Sum.inl (cI, rik, Sum.inl rif)), (oo, Sum.inr (7, [Value.int osg, Value.int (nI (ns F n)), Value.int ofc, Value.ref oca, Value.ref opa])), (oca, Sum.inl (cI, n, Sum.inl ocf)), (opa, Sum.inl (cI, 512, Sum.inl opf))] H → va_D A [(co, Sum.inr (5, [Value.long xx, Value.long (lN e9.1), Value.ref soa, Value.ref sna, Value.ref swa, Value.int xkept, Value.ref ri, Value.ref ro, Value.ref rw, Value.int (nI e9.2)])), (ri, Sum.inr (0, [Value.int (nI is.length), Value.ref ria])), (ria, Sum.inl (cI, rik, Sum.inl rif)), (oo, Sum.inr (7, [Value.int osg, Value.int (nI (ns F n)), Value.int ofc, Value.ref oca, Value.ref opa])), (oca, Sum.inl (cI, n, Sum.inl ocf)), (opa, Sum.inl (cI, 512, Sum.inl opf))] → va_S A s.heap H locs → lv_has ls 5 [(4, Value.int (nI (10 - k9))), (3, Value.int (nI (plc F n (X - 512)))), (2, Value.int (nI (X - 512))), (0, Value.ref co), (1, Value.ref oo)] → W p l e R s m args below meth c H locs 0 0 Q (F0 m 44 ls []) := by
      intro n9_44
      induction n9_44 using Nat.strongRecOn with
      | ind n9_44 ih9_44 =>
        intro e9 k9 hn9_44 hE9 hk8 hX9 hq9 H locs ls hP hD hS hl
        have hb9 : biA is e9.2 < 2 := Nat.mod_lt _ (by decide)
        refine lv_iload hx hb d_Table_nextSign_44 (lv_at hl 0 rfl) ?_
        refine lv_bipush (v := 9) hx hb d_Table_nextSign_46 (by decide) ?_
        refine lv_icmp_gt (tgt := 86) hx hb d_Table_nextSign_48 (by decide) (fun c_6 => ?_) (fun c_6 => ?_)
        · have hgr : gt4 is n F X t = (some (plc F n (X - 512)), tbS is (F (plc F n (X - 512)) + num F n (X - 512), t)) := by unfold gt4; rw [if_neg (by omega)]
          have he9 : tbN is k9 e9 = e9 := by rw [show k9 = 0 by have z := (nI_gt9 c_6); omega]; rfl
          have z9 : e9 = (gt4 is n F X t).2 := by rw [hgr]; show e9 = tbS is _; rw [hE9, he9]
          subst z9
          refine lv_iload_n hx hb d_Table_nextSign_86 rfl (lv_at hl 1 rfl) ?_
          exact my_iret (v := (nI (plc F n (X - 512)))) hx hb hr (rfl) hlocks hQ hK hS (Nat.le_refl _) (Nat.le_refl _) () (by rw [hgr]; rfl) (hP.sub [0, 1, 2, 3, 4, 5] rfl) (hD.sub [0, 1, 2, 3, 4, 5] (by decide +kernel) rfl) d_Table_nextSign_87
        · have hk1 : 1 ≤ k9 := by
            rcases Nat.eq_zero_or_pos k9 with z | z
            · subst z; exact absurd (by decide) c_6
            · exact z
          refine lv_aload_n hx hb d_Table_nextSign_51 rfl (lv_at hl 3 rfl) ?_
          refine va_get (D := (dC, dI)) (ci := 5) (v := .long (lN e9.1)) (C := "RangeCoders$Table") (T := T_Table) (N := 10) hx hb hg in_Table hown hK hP 0 rfl rfl 1 (by decide) (hg _ k218) (fun x9 h9 => u_same (hg _ k219) x9 h9) rfl d_Table_nextSign_52 ?_
          refine lv_ldc2 (v := 512) hx hb hown (hg _ k607) d_Table_nextSign_55 ?_
          refine W.lcmp hx hb d_Table_nextSign_58 ?_
          refine lv_if_ge (tgt := 86) hx hb d_Table_nextSign_59 (by decide) (fun c_7 => ?_) (fun c_7 => ?_)
          · rw [lg_cmp_ge] at c_7
            have hgr : gt4 is n F X t = (some (plc F n (X - 512)), tbS is (F (plc F n (X - 512)) + num F n (X - 512), t)) := by unfold gt4; rw [if_neg (by omega)]
            have he9 : tbN is k9 e9 = e9 := tbN_e (by have z := (L_le (a := 512) (by decide) (by omega)).mp c_7; omega)
            have z9 : e9 = (gt4 is n F X t).2 := by rw [hgr]; show e9 = tbS is _; rw [hE9, he9]
            subst z9
            refine lv_iload_n hx hb d_Table_nextSign_86 rfl (lv_at hl 1 rfl) ?_
            exact my_iret (v := (nI (plc F n (X - 512)))) hx hb hr (rfl) hlocks hQ hK hS (Nat.le_refl _) (Nat.le_refl _) () (by rw [hgr]; rfl) (hP.sub [0, 1, 2, 3, 4, 5] rfl) (hD.sub [0, 1, 2, 3, 4, 5] (by decide +kernel) rfl) d_Table_nextSign_87
          · rw [lg_cmp_ge] at c_7
            have hlt : e9.1 < 512 := by
              rcases Nat.lt_or_ge e9.1 512 with z | z
              · exact z
              · exact absurd ((L_le (a := 512) (by decide) (by omega)).mpr z) c_7
            refine lv_aload_n hx hb d_Table_nextSign_62 rfl (lv_at hl 3 rfl) ?_
            refine lv_ldc2 (v := 2) hx hb hown (hg _ k642) d_Table_nextSign_63 ?_
            refine lv_aload_n hx hb d_Table_nextSign_66 rfl (lv_at hl 3 rfl) ?_
            refine va_get (D := (dC, dI)) (ci := 5) (v := .long (lN e9.1)) (C := "RangeCoders$Table") (T := T_Table) (N := 10) hx hb hg in_Table hown hK hP 0 rfl rfl 1 (by decide) (hg _ k218) (fun x9 h9 => u_same (hg _ k219) x9 h9) rfl d_Table_nextSign_67 ?_
            refine lv_lmul hx hb d_Table_nextSign_70 ?_
            refine lv_topl (fun v_8 ev_8 => ?_)
            have z9 : v_8 = lN (2 * e9.1) := by rw [ev_8]; exact lN_mul 2 _
            subst z9
            refine lv_aload_n hx hb d_Table_nextSign_71 rfl (lv_at hl 3 rfl) ?_
            refine my_ci (wr := [(oo, Sum.inr (7, [Value.int osg, Value.int (nI (ns F n)), Value.int ofc, Value.ref oca, Value.ref opa])), (oca, Sum.inl (cI, n, Sum.inl ocf)), (opa, Sum.inl (cI, 512, Sum.inl opf))]) (va_runV (As := []) (rest := [Value.long (lN (2 * e9.1)), Value.ref co]) ⟨hx, hb, hml, hown, hts⟩ (f_Table_nextInBit l dC dI cI cM cO H.size co xx (lN e9.1) soa sna swa xkept ri ro rw ria rik rif is e9.2 (hri) (hGri) (hLri) (hoct) (by omega)) (cwV 0 hts (my_gV k767 k769 ks12 k11 k770) rfl rfl rfl cu_Table_nextInBit_0 ⟨by rw [hR]; exact Nat.le_of_ble_eq_true rfl, by rw [hR]; exact Nat.le_of_ble_eq_true rfl⟩) (my_preV hK hN (hP.sub [0, 1, 2] rfl) (hD.sub [0, 1, 2] (by decide +kernel) rfl) 0 rfl rfl) rfl rfl hl.1 rfl (lv_room (Nat.le_of_ble_eq_true rfl)) d_Table_nextSign_72 ⟨by rw [hR]; exact Nat.le_of_ble_eq_true rfl, by rw [hR]; exact Nat.le_of_ble_eq_true rfl⟩) hP hD hS hA [0, 1, 2] [3, 4, 5] rfl rfl (by decide +kernel) (by decide +kernel) (fun r_72 u9 H locs hw_72 hP hD hS => ?_)
            have hr_72 : r_72 = nI (biA is e9.2) := hw_72
            have hPD : my_PD (dC, dI) vwCl A [(oo, Sum.inr (7, [Value.int osg, Value.int (nI (ns F n)), Value.int ofc, Value.ref oca, Value.ref opa])), (oca, Sum.inl (cI, n, Sum.inl ocf)), (opa, Sum.inl (cI, 512, Sum.inl opf)), (co, Sum.inr (5, [Value.long xx, Value.long (lN e9.1), Value.ref soa, Value.ref sna, Value.ref swa, Value.int xkept, Value.ref ri, Value.ref ro, Value.ref rw, Value.int (nI (e9.2 + 1))])), (ri, Sum.inr (0, [Value.int (nI is.length), Value.ref ria])), (ria, Sum.inl (cI, rik, Sum.inl rif))] H := ⟨hP, hD⟩
            have hP := hPD.1
            have hD := hPD.2
            have z9 : r_72 = nI (biA is e9.2) := hr_72
            subst z9
            refine lv_i2l hx hb d_Table_nextSign_75 rfl ?_
            refine lv_topl (fun v_9 ev_9 => ?_)
            have z9 : v_9 = lN (biA is e9.2) := by rw [ev_9]; exact nI_l (by omega)
            subst z9
            refine lv_ladd hx hb d_Table_nextSign_76 ?_
            refine lv_topl (fun v_10 ev_10 => ?_)
            have z9 : v_10 = lN (2 * e9.1 + biA is e9.2) := by rw [ev_10]; exact lN_add _ _
            subst z9
            refine va_put (D := (dC, dI)) (ci := 5) (v := .long (lN (2 * e9.1 + biA is e9.2))) (ty := .long) (C := "RangeCoders$Table") (T := T_Table) (N := 10) hx hb hg in_Table t_Table o_Table n_Table hown hK hP hD hS 3 rfl rfl 1 (by decide) (hg _ k218) (fun x9 h9 => u_same (hg _ k219) x9 h9) rfl (o_Table 1 (by decide)) rfl rfl (Nat.le_of_ble_eq_true rfl) d_Table_nextSign_77 (fun H locs hP hD hS => ?_)
            have hPD : my_PD (dC, dI) vwCl A [(oo, Sum.inr (7, [Value.int osg, Value.int (nI (ns F n)), Value.int ofc, Value.ref oca, Value.ref opa])), (oca, Sum.inl (cI, n, Sum.inl ocf)), (opa, Sum.inl (cI, 512, Sum.inl opf)), (co, Sum.inr (5, [Value.long xx, Value.long (lN (2 * e9.1 + biA is e9.2)), Value.ref soa, Value.ref sna, Value.ref swa, Value.int xkept, Value.ref ri, Value.ref ro, Value.ref rw, Value.int (nI (e9.2 + 1))])), (ri, Sum.inr (0, [Value.int (nI is.length), Value.ref ria])), (ria, Sum.inl (cI, rik, Sum.inl rif))] H := ⟨hP, hD⟩
            have hP := hPD.1
            have hD := hPD.2
            obtain ⟨v_11, ev_11⟩ : ∃ y : Int32, y = (nI (10 - k9)) + (1) := ⟨_, rfl⟩
            refine lv_iinc (v := v_11) (lv' := [(4, Value.int v_11), (3, Value.int (nI (plc F n (X - 512)))), (2, Value.int (nI (X - 512))), (0, Value.ref co), (1, Value.ref oo)]) hx hb d_Table_nextSign_80 hl (k := 0) rfl (by rw [ev_11]; rfl) (by decide) rfl (fun ls hl => ?_)
            have z9 : v_11 = nI (10 - (k9 - 1)) := by rw [ev_11, show 10 - (k9 - 1) = 10 - k9 + 1 by omega]; exact nI_1 _
            subst z9
            refine lv_goto (tgt := 44) hx hb d_Table_nextSign_83 (by decide) ?_
            exact ih9_44 _ (by first | omega | (omega)) (2 * e9.1 + biA is e9.2, e9.2 + 1) (k9 - 1) rfl (by rw [hE9, tbN_s (by omega) hlt]) (by omega) (by show 2 * e9.1 + biA is e9.2 < _; omega) (by show e9.2 + 1 + (k9 - 1) ≤ _; omega) H locs ls (hP.sub [3, 4, 5, 0, 1, 2] rfl) (hD.sub [3, 4, 5, 0, 1, 2] (by decide +kernel) rfl) hS (lv_sub hl [0, 1, 2, 3, 4] rfl)
    exact J_44 _ (F (plc F n (X - 512)) + num F n (X - 512), t) (10 : Nat) rfl (rfl) (by decide) (by show F (plc F n (X - 512)) + num F n (X - 512) < _; omega) (by show t + 10 ≤ _; omega) H locs ls (hP.sub [0, 1, 2, 3, 4, 5] rfl) (hD.sub [0, 1, 2, 3, 4, 5] (by decide +kernel) rfl) hS (lv_sub hl [0, 1, 2, 3, 4] rfl)
  · exact absurd (nI_pos0 (show 0 < ns F n by omega) (by omega)) c_1
set_option maxHeartbeats 2000000 in
set_option maxRecDepth 100000 in
theorem f_Table_nextSign0 (l : Launch) (dC : Nat → ClassId) (dI : Nat → Nat → Nat) (cI cM cO : ClassId) (sz : Nat) (co : Nat) (xx : Int64) (xreadX : Int64) (soa : Nat) (sna : Nat) (swa : Nat) (xkept : Int32) (ri : Nat) (ro : Nat) (rw : Nat) (xasked : Int32) (oo : Nat) (osg : Int32) (ofc : Int32) (oca : Nat) (opa : Nat) (n : Nat) (ocf : Nat → Int32) (opl : Nat) (opf : Nat → Int32) (osm : Int32) (hz : osm = 0) : MetI l y_Table_nextSign (Cond.code y_Table_nextSign prog_12_method_11_code 5 (some .int) :: gw) ({ frames := 0, cells := 0, slots := 0, locals := 0 } : Room) (dC, dI) vwCl (kT cI cM cO) [Value.ref co, Value.ref oo] [(co, Sum.inr (5, [Value.long xx, Value.long xreadX, Value.ref soa, Value.ref sna, Value.ref swa, Value.int xkept, Value.ref ri, Value.ref ro, Value.ref rw, Value.int xasked])), (oo, Sum.inr (7, [Value.int osg, Value.int osm, Value.int ofc, Value.ref oca, Value.ref opa])), (oca, Sum.inl (cI, n, Sum.inl ocf)), (opa, Sum.inl (cI, opl, Sum.inl opf))] sz (fun (r : Int32) (u : Unit) => r = -1) (fun (u : Unit) => [(co, Sum.inr (5, [Value.long xx, Value.long xreadX, Value.ref soa, Value.ref sna, Value.ref swa, Value.int xkept, Value.ref ri, Value.ref ro, Value.ref rw, Value.int xasked])), (oo, Sum.inr (7, [Value.int osg, Value.int osm, Value.int ofc, Value.ref oca, Value.ref opa])), (oca, Sum.inl (cI, n, Sum.inl ocf)), (opa, Sum.inl (cI, opl, Sum.inl opf))]) 0 0 := by
  refine my_ofI (cc := prog_12_method_11_code) (n := 5) (ret := (some .int)) (by decide) rfl (Nat.le_of_ble_eq_true rfl) ?_
  intro p e s m args below meth c R Q A ls H locs hx hb hr hts hown hlocks hml hnm hR hQ hA hl hP hK hN hD hS
  have hg : ∀ w ∈ gw, w.before args s = true := fun w h => hts w (List.mem_cons_of_mem _ h)
  have hown : s.vm.findClass "RangeCoders$Table" = some m.cls := hown
  have hl : lv_has ls 5 [(0, Value.ref co), (1, Value.ref oo)] := hl
  refine lv_aload_n hx hb d_Table_nextSign_0 rfl (lv_at hl 1 rfl) ?_
  refine va_get (D := (dC, dI)) (ci := 7) (v := .int osm) (C := "RangeCoders$Odds") (T := T_Odds) (N := 5) hx hb hg in_Odds hown hK hP 1 rfl rfl 1 (by decide) (hg _ k307) (fun _ h9 => h9) rfl d_Table_nextSign_1 ?_
  refine lv_if_gt (tgt := 9) hx hb d_Table_nextSign_4 (by decide) (fun c_1 => ?_) (fun c_1 => ?_)
  · exact absurd c_1 (by rw [hz]; decide)
  · refine lv_iconst (v := (-1)) hx hb d_Table_nextSign_7 (by decide) ?_
    exact my_iret (v := (-1)) hx hb hr (rfl) hlocks hQ hK hS (Nat.le_refl _) (Nat.le_refl _) () (rfl) (hP.sub [0, 1, 2, 3] rfl) (hD.sub [0, 1, 2, 3] (by decide +kernel) rfl) d_Table_nextSign_8
end
section
set_option maxHeartbeats 2000000 in
set_option maxRecDepth 100000 in
theorem m_gb0W (l : Launch) (dC : Nat → ClassId) (dI : Nat → Nat → Nat) (cI cM cO : ClassId) (sz : Nat) (o : Nat) (g : Nat → Nat) (fShift : Int32) (fModels : Int32) (fItems : Int32) (fEnded : Int32) (fLow : Int64) (fRange : Int64) (fCache : Int32) (fPend : Int32) (fGoes : Int32) (fOuts : Int32) (fIns : Int32) (fReads : Int32) (fBad : Int32) (fIR : Int32) (fAsk : Int32) (fBAsk : Int32) (fCode : Int64) (fRL : Int64) (fRR : Int64) (fX : Int64) (fWrites : Int32) (fThrown : Int32) (p1 : Int32) (hno : ¬ (1 ≤ p1 ∧ p1 ≤ nI 12)) : MetI l y_M_getBits (Cond.code y_M_getBits prog_14_method_57_code 3 (some .int) :: gw) ({ frames := 1, cells := 0, slots := 0, locals := 22 } : Room) (dC, dI) vwCl (kT cI cM cO) [Value.ref o, Value.int p1] [(o, Sum.inr (9, mO g 0 fShift fModels fItems fEnded fLow fRange fCache fPend fGoes fOuts fIns fReads fBad fIR fAsk fBAsk fCode fRL fRR fX fWrites fThrown))] sz (fun (r : Int32) (u : Unit) => r = -2) (fun (u : Unit) => [(o, Sum.inr (9, mO g 0 fShift fModels fItems fEnded fLow fRange fCache fPend fGoes fOuts fIns fReads fBad fIR fAsk fBAsk fCode fRL fRR fX fWrites 0))]) 0 0 := by
  refine my_ofI (cc := prog_14_method_57_code) (n := 3) (ret := (some .int)) (by decide) rfl (Nat.le_of_ble_eq_true rfl) ?_
  intro p e s m args below meth c R Q A ls H locs hx hb hr hts hown hlocks hml hnm hR hQ hA hl hP hK hN hD hS
  have hg : ∀ w ∈ gw, w.before args s = true := fun w h => hts w (List.mem_cons_of_mem _ h)
  have hown : s.vm.findClass "RangeCodersModel" = some m.cls := hown
  have hl : lv_has ls 3 [(0, Value.ref o), (1, Value.int p1)] := hl
  refine lv_aload_n hx hb d_M_getBits_0 rfl (lv_at hl 0 rfl) ?_
  refine lv_iconst (v := 0) hx hb d_M_getBits_1 (by decide) ?_
  refine va_put (D := (dC, dI)) (ci := 9) (v := .int 0) (ty := .int) (C := "RangeCodersModel") (T := T_M) (N := 35) hx hb hg in_M t_M o_M n_M hown hK hP hD hS 0 rfl rfl 34 (by decide) (hg _ k986) (fun _ h9 => h9) rfl (o_M 34 (by decide)) rfl rfl (Nat.le_of_ble_eq_true rfl) d_M_getBits_2 (fun H locs hP hD hS => ?_)
  have hPD : my_PD (dC, dI) vwCl A [(o, Sum.inr (9, mO g 0 fShift fModels fItems fEnded fLow fRange fCache fPend fGoes fOuts fIns fReads fBad fIR fAsk fBAsk fCode fRL fRR fX fWrites 0))] H := ⟨hP, hD⟩
  have hP := hPD.1
  have hD := hPD.2
  refine lv_iload_n hx hb d_M_getBits_5 rfl (lv_at hl 1 rfl) ?_
  refine lv_iconst (v := 1) hx hb d_M_getBits_6 (by decide) ?_
  refine lv_aload_n hx hb d_M_getBits_7 rfl (lv_at hl 0 rfl) ?_
  refine va_get (D := (dC, dI)) (ci := 9) (v := .int 0) (C := "RangeCodersModel") (T := T_M) (N := 35) hx hb hg in_M hown hK hP 0 rfl rfl 0 (by decide) (hg _ k952) (fun _ h9 => h9) rfl d_M_getBits_8 ?_
  refine lv_iconst (v := 4) hx hb d_M_getBits_11 (by decide) ?_
  refine lv_icmp_ne (tgt := 20) hx hb d_M_getBits_12 (by decide) (fun c_1 => ?_) (fun c_1 => ?_)
  · refine lv_bipush (v := 12) hx hb d_M_getBits_20 (by decide) ?_
    refine my_ci (wr := [(o, Sum.inr (9, mO g 0 fShift fModels fItems fEnded fLow fRange fCache fPend fGoes fOuts fIns fReads fBad fIR fAsk fBAsk fCode fRL fRR fX fWrites 0))]) (va_runS (As := [Value.int p1, Value.int 1, Value.int 12]) (rest := []) ⟨hx, hb, hml, hown, hts⟩ (c_M_in l dC dI cI cM cO H.size p1 1 12) (cwS 3 hts (my_gS k1062 k1063 k12 k1064) rfl rfl rfl (by decide +kernel) ⟨by rw [hR]; exact Nat.le_of_ble_eq_true rfl, by rw [hR]; exact Nat.le_of_ble_eq_true rfl⟩) (my_pre hK hN (hP.sub [] rfl) (hD.sub [] (by decide +kernel) rfl)) rfl rfl hl.1 rfl (lv_room (Nat.le_of_ble_eq_true rfl)) d_M_getBits_22 ⟨by rw [hR]; exact Nat.le_of_ble_eq_true rfl, by rw [hR]; exact Nat.le_of_ble_eq_true rfl⟩) hP hD hS hA [] [0] rfl rfl (by decide +kernel) (by decide +kernel) (fun r_22 u9 H locs hw_22 hP hD hS => ?_)
    have hw_22 : r_22 = if 1 ≤ p1 ∧ p1 ≤ 12 then 1 else 0 := hw_22
    have hPD : my_PD (dC, dI) vwCl A [(o, Sum.inr (9, mO g 0 fShift fModels fItems fEnded fLow fRange fCache fPend fGoes fOuts fIns fReads fBad fIR fAsk fBAsk fCode fRL fRR fX fWrites 0))] H := ⟨hP, hD⟩
    have hP := hPD.1
    have hD := hPD.2
    refine lv_if_ne (tgt := 31) hx hb d_M_getBits_25 (by decide) (fun c_2 => ?_) (fun c_2 => ?_)
    · exact absurd (one_ne hw_22 c_2) hno
    · refine lv_bipush (v := (-2)) hx hb d_M_getBits_28 (by decide) ?_
      exact my_iret (v := (-2)) hx hb hr (rfl) hlocks hQ hK hS (Nat.le_refl _) (Nat.le_refl _) () (rfl) (hP.sub [0] rfl) (hD.sub [0] (by decide +kernel) rfl) d_M_getBits_30
  · exact absurd c_1 (by decide)
set_option maxHeartbeats 2000000 in
set_option maxRecDepth 100000 in
theorem m_gb0N (l : Launch) (dC : Nat → ClassId) (dI : Nat → Nat → Nat) (cI cM cO : ClassId) (sz : Nat) (o : Nat) (g : Nat → Nat) (fShift : Int32) (fModels : Int32) (fItems : Int32) (fEnded : Int32) (fLow : Int64) (fRange : Int64) (fCache : Int32) (fPend : Int32) (fGoes : Int32) (fOuts : Int32) (fIns : Int32) (fReads : Int32) (fBad : Int32) (fIR : Int32) (fAsk : Int32) (fBAsk : Int32) (fCode : Int64) (fRL : Int64) (fRR : Int64) (fX : Int64) (fWrites : Int32) (fThrown : Int32) (bb : Nat) (hb1 : 1 ≤ bb) (hb2 : bb ≤ 12) (hrd : fReads = 0) : MetI l y_M_getBits (Cond.code y_M_getBits prog_14_method_57_code 3 (some .int) :: gw) ({ frames := 1, cells := 0, slots := 0, locals := 22 } : Room) (dC, dI) vwCl (kT cI cM cO) [Value.ref o, Value.int (nI bb)] [(o, Sum.inr (9, mO g 0 fShift fModels fItems fEnded fLow fRange fCache fPend fGoes fOuts fIns fReads fBad fIR fAsk fBAsk fCode fRL fRR fX fWrites fThrown))] sz (fun (r : Int32) (u : Unit) => r = -3) (fun (u : Unit) => [(o, Sum.inr (9, mO g 0 fShift fModels fItems fEnded fLow fRange fCache fPend fGoes fOuts fIns fReads fBad fIR fAsk fBAsk fCode fRL fRR fX fWrites 0))]) 0 0 := by
  refine my_ofI (cc := prog_14_method_57_code) (n := 3) (ret := (some .int)) (by decide) rfl (Nat.le_of_ble_eq_true rfl) ?_
  intro p e s m args below meth c R Q A ls H locs hx hb hr hts hown hlocks hml hnm hR hQ hA hl hP hK hN hD hS
  have hg : ∀ w ∈ gw, w.before args s = true := fun w h => hts w (List.mem_cons_of_mem _ h)
  have hown : s.vm.findClass "RangeCodersModel" = some m.cls := hown
  have hl : lv_has ls 3 [(0, Value.ref o), (1, Value.int (nI bb))] := hl
  refine lv_aload_n hx hb d_M_getBits_0 rfl (lv_at hl 0 rfl) ?_
  refine lv_iconst (v := 0) hx hb d_M_getBits_1 (by decide) ?_
  refine va_put (D := (dC, dI)) (ci := 9) (v := .int 0) (ty := .int) (C := "RangeCodersModel") (T := T_M) (N := 35) hx hb hg in_M t_M o_M n_M hown hK hP hD hS 0 rfl rfl 34 (by decide) (hg _ k986) (fun _ h9 => h9) rfl (o_M 34 (by decide)) rfl rfl (Nat.le_of_ble_eq_true rfl) d_M_getBits_2 (fun H locs hP hD hS => ?_)
  have hPD : my_PD (dC, dI) vwCl A [(o, Sum.inr (9, mO g 0 fShift fModels fItems fEnded fLow fRange fCache fPend fGoes fOuts fIns fReads fBad fIR fAsk fBAsk fCode fRL fRR fX fWrites 0))] H := ⟨hP, hD⟩
  have hP := hPD.1
  have hD := hPD.2
  refine lv_iload_n hx hb d_M_getBits_5 rfl (lv_at hl 1 rfl) ?_
  refine lv_iconst (v := 1) hx hb d_M_getBits_6 (by decide) ?_
  refine lv_aload_n hx hb d_M_getBits_7 rfl (lv_at hl 0 rfl) ?_
  refine va_get (D := (dC, dI)) (ci := 9) (v := .int 0) (C := "RangeCodersModel") (T := T_M) (N := 35) hx hb hg in_M hown hK hP 0 rfl rfl 0 (by decide) (hg _ k952) (fun _ h9 => h9) rfl d_M_getBits_8 ?_
  refine lv_iconst (v := 4) hx hb d_M_getBits_11 (by decide) ?_
  refine lv_icmp_ne (tgt := 20) hx hb d_M_getBits_12 (by decide) (fun c_1 => ?_) (fun c_1 => ?_)
  · refine lv_bipush (v := 12) hx hb d_M_getBits_20 (by decide) ?_
    refine my_ci (wr := [(o, Sum.inr (9, mO g 0 fShift fModels fItems fEnded fLow fRange fCache fPend fGoes fOuts fIns fReads fBad fIR fAsk fBAsk fCode fRL fRR fX fWrites 0))]) (va_runS (As := [Value.int (nI bb), Value.int 1, Value.int 12]) (rest := []) ⟨hx, hb, hml, hown, hts⟩ (c_M_in l dC dI cI cM cO H.size (nI bb) 1 12) (cwS 3 hts (my_gS k1062 k1063 k12 k1064) rfl rfl rfl (by decide +kernel) ⟨by rw [hR]; exact Nat.le_of_ble_eq_true rfl, by rw [hR]; exact Nat.le_of_ble_eq_true rfl⟩) (my_pre hK hN (hP.sub [] rfl) (hD.sub [] (by decide +kernel) rfl)) rfl rfl hl.1 rfl (lv_room (Nat.le_of_ble_eq_true rfl)) d_M_getBits_22 ⟨by rw [hR]; exact Nat.le_of_ble_eq_true rfl, by rw [hR]; exact Nat.le_of_ble_eq_true rfl⟩) hP hD hS hA [] [0] rfl rfl (by decide +kernel) (by decide +kernel) (fun r_22 u9 H locs hw_22 hP hD hS => ?_)
    have hw_22 : r_22 = if 1 ≤ (nI bb) ∧ (nI bb) ≤ 12 then 1 else 0 := hw_22
    have hPD : my_PD (dC, dI) vwCl A [(o, Sum.inr (9, mO g 0 fShift fModels fItems fEnded fLow fRange fCache fPend fGoes fOuts fIns fReads fBad fIR fAsk fBAsk fCode fRL fRR fX fWrites 0))] H := ⟨hP, hD⟩
    have hP := hPD.1
    have hD := hPD.2
    refine lv_if_ne (tgt := 31) hx hb d_M_getBits_25 (by decide) (fun c_2 => ?_) (fun c_2 => ?_)
    · refine lv_aload_n hx hb d_M_getBits_31 rfl (lv_at hl 0 rfl) ?_
      refine va_get (D := (dC, dI)) (ci := 9) (v := .int fReads) (C := "RangeCodersModel") (T := T_M) (N := 35) hx hb hg in_M hown hK hP 0 rfl rfl 21 (by decide) (hg _ k973) (fun _ h9 => h9) rfl d_M_getBits_32 ?_
      refine lv_if_ne (tgt := 41) hx hb d_M_getBits_35 (by decide) (fun c_3 => ?_) (fun c_3 => ?_)
      · exact absurd hrd c_3
      · refine lv_bipush (v := (-3)) hx hb d_M_getBits_38 (by decide) ?_
        exact my_iret (v := (-3)) hx hb hr (rfl) hlocks hQ hK hS (Nat.le_refl _) (Nat.le_refl _) () (rfl) (hP.sub [0] rfl) (hD.sub [0] (by decide +kernel) rfl) d_M_getBits_40
    · exact absurd (show 1 ≤ nI bb ∧ nI bb ≤ nI 12 from ⟨nI_le (a := 1) hb1 (by omega), nI_le hb2 (by decide)⟩) (one_eq hw_22 c_2)
  · exact absurd c_1 (by decide)
set_option maxHeartbeats 2000000 in
set_option maxRecDepth 100000 in
theorem m_gb0B (l : Launch) (dC : Nat → ClassId) (dI : Nat → Nat → Nat) (cI cM cO : ClassId) (sz : Nat) (o : Nat) (g : Nat → Nat) (fShift : Int32) (fModels : Int32) (fItems : Int32) (fEnded : Int32) (fLow : Int64) (fRange : Int64) (fCache : Int32) (fPend : Int32) (fGoes : Int32) (fOuts : Int32) (fIns : Int32) (fReads : Int32) (fBad : Int32) (fIR : Int32) (fAsk : Int32) (fBAsk : Int32) (fCode : Int64) (fRL : Int64) (fRR : Int64) (fX : Int64) (fWrites : Int32) (fThrown : Int32) (bb : Nat) (hb1 : 1 ≤ bb) (hb2 : bb ≤ 12) (hrd : ¬ fReads = 0) (hbd : ¬ fBad = 0) : MetI l y_M_getBits (Cond.code y_M_getBits prog_14_method_57_code 3 (some .int) :: gw) ({ frames := 1, cells := 0, slots := 0, locals := 22 } : Room) (dC, dI) vwCl (kT cI cM cO) [Value.ref o, Value.int (nI bb)] [(o, Sum.inr (9, mO g 0 fShift fModels fItems fEnded fLow fRange fCache fPend fGoes fOuts fIns fReads fBad fIR fAsk fBAsk fCode fRL fRR fX fWrites fThrown))] sz (fun (r : Int32) (u : Unit) => r = -5) (fun (u : Unit) => [(o, Sum.inr (9, mO g 0 fShift fModels fItems fEnded fLow fRange fCache fPend fGoes fOuts fIns fReads fBad fIR fAsk fBAsk fCode fRL fRR fX fWrites 0))]) 0 0 := by
  refine my_ofI (cc := prog_14_method_57_code) (n := 3) (ret := (some .int)) (by decide) rfl (Nat.le_of_ble_eq_true rfl) ?_
  intro p e s m args below meth c R Q A ls H locs hx hb hr hts hown hlocks hml hnm hR hQ hA hl hP hK hN hD hS
  have hg : ∀ w ∈ gw, w.before args s = true := fun w h => hts w (List.mem_cons_of_mem _ h)
  have hown : s.vm.findClass "RangeCodersModel" = some m.cls := hown
  have hl : lv_has ls 3 [(0, Value.ref o), (1, Value.int (nI bb))] := hl
  refine lv_aload_n hx hb d_M_getBits_0 rfl (lv_at hl 0 rfl) ?_
  refine lv_iconst (v := 0) hx hb d_M_getBits_1 (by decide) ?_
  refine va_put (D := (dC, dI)) (ci := 9) (v := .int 0) (ty := .int) (C := "RangeCodersModel") (T := T_M) (N := 35) hx hb hg in_M t_M o_M n_M hown hK hP hD hS 0 rfl rfl 34 (by decide) (hg _ k986) (fun _ h9 => h9) rfl (o_M 34 (by decide)) rfl rfl (Nat.le_of_ble_eq_true rfl) d_M_getBits_2 (fun H locs hP hD hS => ?_)
  have hPD : my_PD (dC, dI) vwCl A [(o, Sum.inr (9, mO g 0 fShift fModels fItems fEnded fLow fRange fCache fPend fGoes fOuts fIns fReads fBad fIR fAsk fBAsk fCode fRL fRR fX fWrites 0))] H := ⟨hP, hD⟩
  have hP := hPD.1
  have hD := hPD.2
  refine lv_iload_n hx hb d_M_getBits_5 rfl (lv_at hl 1 rfl) ?_
  refine lv_iconst (v := 1) hx hb d_M_getBits_6 (by decide) ?_
  refine lv_aload_n hx hb d_M_getBits_7 rfl (lv_at hl 0 rfl) ?_
  refine va_get (D := (dC, dI)) (ci := 9) (v := .int 0) (C := "RangeCodersModel") (T := T_M) (N := 35) hx hb hg in_M hown hK hP 0 rfl rfl 0 (by decide) (hg _ k952) (fun _ h9 => h9) rfl d_M_getBits_8 ?_
  refine lv_iconst (v := 4) hx hb d_M_getBits_11 (by decide) ?_
  refine lv_icmp_ne (tgt := 20) hx hb d_M_getBits_12 (by decide) (fun c_1 => ?_) (fun c_1 => ?_)
  · refine lv_bipush (v := 12) hx hb d_M_getBits_20 (by decide) ?_
    refine my_ci (wr := [(o, Sum.inr (9, mO g 0 fShift fModels fItems fEnded fLow fRange fCache fPend fGoes fOuts fIns fReads fBad fIR fAsk fBAsk fCode fRL fRR fX fWrites 0))]) (va_runS (As := [Value.int (nI bb), Value.int 1, Value.int 12]) (rest := []) ⟨hx, hb, hml, hown, hts⟩ (c_M_in l dC dI cI cM cO H.size (nI bb) 1 12) (cwS 3 hts (my_gS k1062 k1063 k12 k1064) rfl rfl rfl (by decide +kernel) ⟨by rw [hR]; exact Nat.le_of_ble_eq_true rfl, by rw [hR]; exact Nat.le_of_ble_eq_true rfl⟩) (my_pre hK hN (hP.sub [] rfl) (hD.sub [] (by decide +kernel) rfl)) rfl rfl hl.1 rfl (lv_room (Nat.le_of_ble_eq_true rfl)) d_M_getBits_22 ⟨by rw [hR]; exact Nat.le_of_ble_eq_true rfl, by rw [hR]; exact Nat.le_of_ble_eq_true rfl⟩) hP hD hS hA [] [0] rfl rfl (by decide +kernel) (by decide +kernel) (fun r_22 u9 H locs hw_22 hP hD hS => ?_)
    have hw_22 : r_22 = if 1 ≤ (nI bb) ∧ (nI bb) ≤ 12 then 1 else 0 := hw_22
    have hPD : my_PD (dC, dI) vwCl A [(o, Sum.inr (9, mO g 0 fShift fModels fItems fEnded fLow fRange fCache fPend fGoes fOuts fIns fReads fBad fIR fAsk fBAsk fCode fRL fRR fX fWrites 0))] H := ⟨hP, hD⟩
    have hP := hPD.1
    have hD := hPD.2
    refine lv_if_ne (tgt := 31) hx hb d_M_getBits_25 (by decide) (fun c_2 => ?_) (fun c_2 => ?_)
    · refine lv_aload_n hx hb d_M_getBits_31 rfl (lv_at hl 0 rfl) ?_
      refine va_get (D := (dC, dI)) (ci := 9) (v := .int fReads) (C := "RangeCodersModel") (T := T_M) (N := 35) hx hb hg in_M hown hK hP 0 rfl rfl 21 (by decide) (hg _ k973) (fun _ h9 => h9) rfl d_M_getBits_32 ?_
      refine lv_if_ne (tgt := 41) hx hb d_M_getBits_35 (by decide) (fun c_3 => ?_) (fun c_3 => ?_)
      · refine lv_aload_n hx hb d_M_getBits_41 rfl (lv_at hl 0 rfl) ?_
        refine va_get (D := (dC, dI)) (ci := 9) (v := .int fBad) (C := "RangeCodersModel") (T := T_M) (N := 35) hx hb hg in_M hown hK hP 0 rfl rfl 22 (by decide) (hg _ k974) (fun _ h9 => h9) rfl d_M_getBits_42 ?_
        refine lv_if_eq (tgt := 51) hx hb d_M_getBits_45 (by decide) (fun c_4 => ?_) (fun c_4 => ?_)
        · exact absurd c_4 hbd
        · refine lv_bipush (v := (-5)) hx hb d_M_getBits_48 (by decide) ?_
          exact my_iret (v := (-5)) hx hb hr (rfl) hlocks hQ hK hS (Nat.le_refl _) (Nat.le_refl _) () (rfl) (hP.sub [0] rfl) (hD.sub [0] (by decide +kernel) rfl) d_M_getBits_50
      · exact absurd c_3 hrd
    · exact absurd (show 1 ≤ nI bb ∧ nI bb ≤ nI 12 from ⟨nI_le (a := 1) hb1 (by omega), nI_le hb2 (by decide)⟩) (one_eq hw_22 c_2)
  · exact absurd c_1 (by decide)
set_option maxHeartbeats 2000000 in
set_option maxRecDepth 100000 in
theorem m_gb0L (l : Launch) (dC : Nat → ClassId) (dI : Nat → Nat → Nat) (cI cM cO : ClassId) (sz : Nat) (o : Nat) (g : Nat → Nat) (fShift : Int32) (fModels : Int32) (fItems : Int32) (fEnded : Int32) (fLow : Int64) (fRange : Int64) (fCache : Int32) (fPend : Int32) (fGoes : Int32) (fOuts : Int32) (fReads : Int32) (fIR : Int32) (fBAsk : Int32) (fRL : Int64) (fX : Int64) (fWrites : Int32) (fThrown : Int32) (vIn : Nat → Int32) (bb : Nat) (RR : Nat) (CD : Nat) (is : List Nat) (q : Nat) (s9 : Nat) (hb1 : 1 ≤ bb) (hb2 : bb ≤ 12) (hrd : ¬ fReads = 0) (hR1 : RR < 4294967296) (hC : CD < 4294967296) (hIn : gIs vIn is) (hlen : is.length ≤ 6000) (hoct : oct is) (hq : q < 700000) (hG : (gv0 is bb (RR, CD, q)).1 = some s9) (hs9 : s9 < 2147483648) : MetI l y_M_getBits (Cond.code y_M_getBits prog_14_method_57_code 3 (some .int) :: gw) ({ frames := 4, cells := 0, slots := 0, locals := 90 } : Room) (dC, dI) vwCl (kT cI cM cO) [Value.ref o, Value.int (nI bb)] [(o, Sum.inr (9, mO g 0 fShift fModels fItems fEnded fLow fRange fCache fPend fGoes fOuts (nI is.length) fReads 0 fIR (nI q) fBAsk (lN CD) fRL (lN RR) fX fWrites fThrown)), ((g 8), Sum.inl (cI, 6000, Sum.inl vIn))] sz (fun (r : Int32) (u : Int32) => r = nI s9) (fun (u : Int32) => [(o, Sum.inr (9, mO g 0 fShift fModels fItems fEnded fLow fRange fCache fPend fGoes fOuts (nI is.length) fReads 0 u (nI (gv0 is bb (RR, CD, q)).2.2.2) fBAsk (lN (gv0 is bb (RR, CD, q)).2.2.1) fRL (lN (gv0 is bb (RR, CD, q)).2.1) fX fWrites 0)), ((g 8), Sum.inl (cI, 6000, Sum.inl vIn))]) 0 0 := by
  refine my_ofI (cc := prog_14_method_57_code) (n := 3) (ret := (some .int)) (by decide) rfl (Nat.le_of_ble_eq_true rfl) ?_
  intro p e s m args below meth c R Q A ls H locs hx hb hr hts hown hlocks hml hnm hR hQ hA hl hP hK hN hD hS
  have hg : ∀ w ∈ gw, w.before args s = true := fun w h => hts w (List.mem_cons_of_mem _ h)
  have hown : s.vm.findClass "RangeCodersModel" = some m.cls := hown
  have hl : lv_has ls 3 [(0, Value.ref o), (1, Value.int (nI bb))] := hl
  refine lv_aload_n hx hb d_M_getBits_0 rfl (lv_at hl 0 rfl) ?_
  refine lv_iconst (v := 0) hx hb d_M_getBits_1 (by decide) ?_
  refine va_put (D := (dC, dI)) (ci := 9) (v := .int 0) (ty := .int) (C := "RangeCodersModel") (T := T_M) (N := 35) hx hb hg in_M t_M o_M n_M hown hK hP hD hS 0 rfl rfl 34 (by decide) (hg _ k986) (fun _ h9 => h9) rfl (o_M 34 (by decide)) rfl rfl (Nat.le_of_ble_eq_true rfl) d_M_getBits_2 (fun H locs hP hD hS => ?_)
  have hPD : my_PD (dC, dI) vwCl A [(o, Sum.inr (9, mO g 0 fShift fModels fItems fEnded fLow fRange fCache fPend fGoes fOuts (nI is.length) fReads 0 fIR (nI q) fBAsk (lN CD) fRL (lN RR) fX fWrites 0)), ((g 8), Sum.inl (cI, 6000, Sum.inl vIn))] H := ⟨hP, hD⟩
  have hP := hPD.1
  have hD := hPD.2
  refine lv_iload_n hx hb d_M_getBits_5 rfl (lv_at hl 1 rfl) ?_
  refine lv_iconst (v := 1) hx hb d_M_getBits_6 (by decide) ?_
  refine lv_aload_n hx hb d_M_getBits_7 rfl (lv_at hl 0 rfl) ?_
  refine va_get (D := (dC, dI)) (ci := 9) (v := .int 0) (C := "RangeCodersModel") (T := T_M) (N := 35) hx hb hg in_M hown hK hP 0 rfl rfl 0 (by decide) (hg _ k952) (fun _ h9 => h9) rfl d_M_getBits_8 ?_
  refine lv_iconst (v := 4) hx hb d_M_getBits_11 (by decide) ?_
  refine lv_icmp_ne (tgt := 20) hx hb d_M_getBits_12 (by decide) (fun c_1 => ?_) (fun c_1 => ?_)
  · refine lv_bipush (v := 12) hx hb d_M_getBits_20 (by decide) ?_
    refine my_ci (wr := [(o, Sum.inr (9, mO g 0 fShift fModels fItems fEnded fLow fRange fCache fPend fGoes fOuts (nI is.length) fReads 0 fIR (nI q) fBAsk (lN CD) fRL (lN RR) fX fWrites 0)), ((g 8), Sum.inl (cI, 6000, Sum.inl vIn))]) (va_runS (As := [Value.int (nI bb), Value.int 1, Value.int 12]) (rest := []) ⟨hx, hb, hml, hown, hts⟩ (c_M_in l dC dI cI cM cO H.size (nI bb) 1 12) (cwS 3 hts (my_gS k1062 k1063 k12 k1064) rfl rfl rfl (by decide +kernel) ⟨by rw [hR]; exact Nat.le_of_ble_eq_true rfl, by rw [hR]; exact Nat.le_of_ble_eq_true rfl⟩) (my_pre hK hN (hP.sub [] rfl) (hD.sub [] (by decide +kernel) rfl)) rfl rfl hl.1 rfl (lv_room (Nat.le_of_ble_eq_true rfl)) d_M_getBits_22 ⟨by rw [hR]; exact Nat.le_of_ble_eq_true rfl, by rw [hR]; exact Nat.le_of_ble_eq_true rfl⟩) hP hD hS hA [] [0, 1] rfl rfl (by decide +kernel) (by decide +kernel) (fun r_22 u9 H locs hw_22 hP hD hS => ?_)
    have hw_22 : r_22 = if 1 ≤ (nI bb) ∧ (nI bb) ≤ 12 then 1 else 0 := hw_22
    have hPD : my_PD (dC, dI) vwCl A [(o, Sum.inr (9, mO g 0 fShift fModels fItems fEnded fLow fRange fCache fPend fGoes fOuts (nI is.length) fReads 0 fIR (nI q) fBAsk (lN CD) fRL (lN RR) fX fWrites 0)), ((g 8), Sum.inl (cI, 6000, Sum.inl vIn))] H := ⟨hP, hD⟩
    have hP := hPD.1
    have hD := hPD.2
    refine lv_if_ne (tgt := 31) hx hb d_M_getBits_25 (by decide) (fun c_2 => ?_) (fun c_2 => ?_)
    · refine lv_aload_n hx hb d_M_getBits_31 rfl (lv_at hl 0 rfl) ?_
      refine va_get (D := (dC, dI)) (ci := 9) (v := .int fReads) (C := "RangeCodersModel") (T := T_M) (N := 35) hx hb hg in_M hown hK hP 0 rfl rfl 21 (by decide) (hg _ k973) (fun _ h9 => h9) rfl d_M_getBits_32 ?_
      refine lv_if_ne (tgt := 41) hx hb d_M_getBits_35 (by decide) (fun c_3 => ?_) (fun c_3 => ?_)
      · refine lv_aload_n hx hb d_M_getBits_41 rfl (lv_at hl 0 rfl) ?_
        refine va_get (D := (dC, dI)) (ci := 9) (v := .int 0) (C := "RangeCodersModel") (T := T_M) (N := 35) hx hb hg in_M hown hK hP 0 rfl rfl 22 (by decide) (hg _ k974) (fun _ h9 => h9) rfl d_M_getBits_42 ?_
        refine lv_if_eq (tgt := 51) hx hb d_M_getBits_45 (by decide) (fun c_4 => ?_) (fun c_4 => ?_)
        · refine lv_aload_n hx hb d_M_getBits_51 rfl (lv_at hl 0 rfl) ?_
          refine lv_iload_n hx hb d_M_getBits_52 rfl (lv_at hl 1 rfl) ?_
          refine my_ci (wr := []) (va_runV (As := [Value.int (nI bb)]) (rest := []) ⟨hx, hb, hml, hown, hts⟩ (c_M_valueOf0 l dC dI cI cM cO H.size o g fShift fModels fItems fEnded fLow fRange fCache fPend fGoes fOuts fReads 0 fIR fBAsk fRL fX fWrites 0 vIn bb RR CD is q (hb1) (hb2) (hIn) (hlen) (hoct) (by omega) (hR1) (hC)) (cwV 1 hts (my_gV k1260 k1262 ks59 k12 k1263) rfl rfl rfl cu_M_valueOf_1 ⟨by rw [hR]; exact Nat.le_of_ble_eq_true rfl, by rw [hR]; exact Nat.le_of_ble_eq_true rfl⟩) (my_preV hK hN (hP.sub [0, 1] rfl) (hD.sub [0, 1] (by decide +kernel) rfl) 0 rfl rfl) rfl rfl hl.1 rfl (lv_room (Nat.le_of_ble_eq_true rfl)) d_M_getBits_53 ⟨by rw [hR]; exact Nat.le_of_ble_eq_true rfl, by rw [hR]; exact Nat.le_of_ble_eq_true rfl⟩) hP hD hS hA [0, 1] [] rfl rfl (by decide +kernel) (by decide +kernel) (fun r_53 u9 H locs hw_53 hP hD hS => ?_)
          have hw_53 : r_53 = oI (gv0 is bb (RR, CD, q)).1 := hw_53
          have hPD : my_PD (dC, dI) vwCl A [(o, Sum.inr (9, mO g 0 fShift fModels fItems fEnded fLow fRange fCache fPend fGoes fOuts (nI is.length) fReads 0 fIR (nI (gv0 is bb (RR, CD, q)).2.2.2) fBAsk (lN (gv0 is bb (RR, CD, q)).2.2.1) fRL (lN (gv0 is bb (RR, CD, q)).2.1) fX fWrites 0)), ((g 8), Sum.inl (cI, 6000, Sum.inl vIn))] H := ⟨hP, hD⟩
          have hP := hPD.1
          have hD := hPD.2
          refine lv_istore_n (lv' := [(2, Value.int r_53), (0, Value.ref o), (1, Value.int (nI bb))]) hx hb d_M_getBits_56 rfl hl (by decide) rfl (fun ls hl => ?_)
          have hr8 : r_53 = nI s9 := by rw [hw_53, hG]; rfl
          refine lv_iload_n hx hb d_M_getBits_57 rfl (lv_at hl 0 rfl) ?_
          refine lv_if_ge (tgt := 66) hx hb d_M_getBits_58 (by decide) (fun c_5 => ?_) (fun c_5 => ?_)
          · refine lv_aload_n hx hb d_M_getBits_66 rfl (lv_at hl 1 rfl) ?_
            refine lv_dup hx hb d_M_getBits_67 rfl ?_
            refine va_get (D := (dC, dI)) (ci := 9) (v := .int fIR) (C := "RangeCodersModel") (T := T_M) (N := 35) hx hb hg in_M hown hK hP 0 rfl rfl 23 (by decide) (hg _ k975) (fun _ h9 => h9) rfl d_M_getBits_68 ?_
            refine lv_iconst (v := 1) hx hb d_M_getBits_71 (by decide) ?_
            refine lv_iadd hx hb d_M_getBits_72 ?_
            refine lv_topi (fun v_6 ev_6 => ?_)
            refine va_put (D := (dC, dI)) (ci := 9) (v := .int v_6) (ty := .int) (C := "RangeCodersModel") (T := T_M) (N := 35) hx hb hg in_M t_M o_M n_M hown hK hP hD hS 0 rfl rfl 23 (by decide) (hg _ k975) (fun _ h9 => h9) rfl (o_M 23 (by decide)) rfl rfl (Nat.le_of_ble_eq_true rfl) d_M_getBits_73 (fun H locs hP hD hS => ?_)
            have hPD : my_PD (dC, dI) vwCl A [(o, Sum.inr (9, mO g 0 fShift fModels fItems fEnded fLow fRange fCache fPend fGoes fOuts (nI is.length) fReads 0 v_6 (nI (gv0 is bb (RR, CD, q)).2.2.2) fBAsk (lN (gv0 is bb (RR, CD, q)).2.2.1) fRL (lN (gv0 is bb (RR, CD, q)).2.1) fX fWrites 0)), ((g 8), Sum.inl (cI, 6000, Sum.inl vIn))] H := ⟨hP, hD⟩
            have hP := hPD.1
            have hD := hPD.2
            refine lv_iload_n hx hb d_M_getBits_76 rfl (lv_at hl 0 rfl) ?_
            exact my_iret (v := r_53) hx hb hr (rfl) hlocks hQ hK hS (Nat.le_refl _) (Nat.le_refl _) (v_6) (hr8) (hP.sub [0, 1] rfl) (hD.sub [0, 1] (by decide +kernel) rfl) d_M_getBits_77
          · exact absurd (by rw [hr8]; exact nI_pos' hs9) c_5
        · exact absurd (by decide) c_4
      · exact absurd c_3 hrd
    · exact absurd (show 1 ≤ nI bb ∧ nI bb ≤ nI 12 from ⟨nI_le (a := 1) hb1 (by omega), nI_le hb2 (by decide)⟩) (one_eq hw_22 c_2)
  · exact absurd c_1 (by decide)
set_option maxHeartbeats 2000000 in
set_option maxRecDepth 100000 in
theorem m_gb0X (l : Launch) (dC : Nat → ClassId) (dI : Nat → Nat → Nat) (cI cM cO : ClassId) (sz : Nat) (o : Nat) (g : Nat → Nat) (fShift : Int32) (fModels : Int32) (fItems : Int32) (fEnded : Int32) (fLow : Int64) (fRange : Int64) (fCache : Int32) (fPend : Int32) (fGoes : Int32) (fOuts : Int32) (fReads : Int32) (fIR : Int32) (fBAsk : Int32) (fRL : Int64) (fX : Int64) (fWrites : Int32) (fThrown : Int32) (vIn : Nat → Int32) (bb : Nat) (RR : Nat) (CD : Nat) (is : List Nat) (q : Nat) (hb1 : 1 ≤ bb) (hb2 : bb ≤ 12) (hrd : ¬ fReads = 0) (hR1 : RR < 4294967296) (hC : CD < 4294967296) (hIn : gIs vIn is) (hlen : is.length ≤ 6000) (hoct : oct is) (hq : q < 700000) (hG : (gv0 is bb (RR, CD, q)).1 = none) : MetI l y_M_getBits (Cond.code y_M_getBits prog_14_method_57_code 3 (some .int) :: gw) ({ frames := 4, cells := 0, slots := 0, locals := 90 } : Room) (dC, dI) vwCl (kT cI cM cO) [Value.ref o, Value.int (nI bb)] [(o, Sum.inr (9, mO g 0 fShift fModels fItems fEnded fLow fRange fCache fPend fGoes fOuts (nI is.length) fReads 0 fIR (nI q) fBAsk (lN CD) fRL (lN RR) fX fWrites fThrown)), ((g 8), Sum.inl (cI, 6000, Sum.inl vIn))] sz (fun (r : Int32) (u : Unit) => r = -5) (fun (u : Unit) => [(o, Sum.inr (9, mO g 0 fShift fModels fItems fEnded fLow fRange fCache fPend fGoes fOuts (nI is.length) fReads 1 fIR (nI (gv0 is bb (RR, CD, q)).2.2.2) fBAsk (lN (gv0 is bb (RR, CD, q)).2.2.1) fRL (lN (gv0 is bb (RR, CD, q)).2.1) fX fWrites 0)), ((g 8), Sum.inl (cI, 6000, Sum.inl vIn))]) 0 0 := by
  refine my_ofI (cc := prog_14_method_57_code) (n := 3) (ret := (some .int)) (by decide) rfl (Nat.le_of_ble_eq_true rfl) ?_
  intro p e s m args below meth c R Q A ls H locs hx hb hr hts hown hlocks hml hnm hR hQ hA hl hP hK hN hD hS
  have hg : ∀ w ∈ gw, w.before args s = true := fun w h => hts w (List.mem_cons_of_mem _ h)
  have hown : s.vm.findClass "RangeCodersModel" = some m.cls := hown
  have hl : lv_has ls 3 [(0, Value.ref o), (1, Value.int (nI bb))] := hl
  refine lv_aload_n hx hb d_M_getBits_0 rfl (lv_at hl 0 rfl) ?_
  refine lv_iconst (v := 0) hx hb d_M_getBits_1 (by decide) ?_
  refine va_put (D := (dC, dI)) (ci := 9) (v := .int 0) (ty := .int) (C := "RangeCodersModel") (T := T_M) (N := 35) hx hb hg in_M t_M o_M n_M hown hK hP hD hS 0 rfl rfl 34 (by decide) (hg _ k986) (fun _ h9 => h9) rfl (o_M 34 (by decide)) rfl rfl (Nat.le_of_ble_eq_true rfl) d_M_getBits_2 (fun H locs hP hD hS => ?_)
  have hPD : my_PD (dC, dI) vwCl A [(o, Sum.inr (9, mO g 0 fShift fModels fItems fEnded fLow fRange fCache fPend fGoes fOuts (nI is.length) fReads 0 fIR (nI q) fBAsk (lN CD) fRL (lN RR) fX fWrites 0)), ((g 8), Sum.inl (cI, 6000, Sum.inl vIn))] H := ⟨hP, hD⟩
  have hP := hPD.1
  have hD := hPD.2
  refine lv_iload_n hx hb d_M_getBits_5 rfl (lv_at hl 1 rfl) ?_
  refine lv_iconst (v := 1) hx hb d_M_getBits_6 (by decide) ?_
  refine lv_aload_n hx hb d_M_getBits_7 rfl (lv_at hl 0 rfl) ?_
  refine va_get (D := (dC, dI)) (ci := 9) (v := .int 0) (C := "RangeCodersModel") (T := T_M) (N := 35) hx hb hg in_M hown hK hP 0 rfl rfl 0 (by decide) (hg _ k952) (fun _ h9 => h9) rfl d_M_getBits_8 ?_
  refine lv_iconst (v := 4) hx hb d_M_getBits_11 (by decide) ?_
  refine lv_icmp_ne (tgt := 20) hx hb d_M_getBits_12 (by decide) (fun c_1 => ?_) (fun c_1 => ?_)
  · refine lv_bipush (v := 12) hx hb d_M_getBits_20 (by decide) ?_
    refine my_ci (wr := [(o, Sum.inr (9, mO g 0 fShift fModels fItems fEnded fLow fRange fCache fPend fGoes fOuts (nI is.length) fReads 0 fIR (nI q) fBAsk (lN CD) fRL (lN RR) fX fWrites 0)), ((g 8), Sum.inl (cI, 6000, Sum.inl vIn))]) (va_runS (As := [Value.int (nI bb), Value.int 1, Value.int 12]) (rest := []) ⟨hx, hb, hml, hown, hts⟩ (c_M_in l dC dI cI cM cO H.size (nI bb) 1 12) (cwS 3 hts (my_gS k1062 k1063 k12 k1064) rfl rfl rfl (by decide +kernel) ⟨by rw [hR]; exact Nat.le_of_ble_eq_true rfl, by rw [hR]; exact Nat.le_of_ble_eq_true rfl⟩) (my_pre hK hN (hP.sub [] rfl) (hD.sub [] (by decide +kernel) rfl)) rfl rfl hl.1 rfl (lv_room (Nat.le_of_ble_eq_true rfl)) d_M_getBits_22 ⟨by rw [hR]; exact Nat.le_of_ble_eq_true rfl, by rw [hR]; exact Nat.le_of_ble_eq_true rfl⟩) hP hD hS hA [] [0, 1] rfl rfl (by decide +kernel) (by decide +kernel) (fun r_22 u9 H locs hw_22 hP hD hS => ?_)
    have hw_22 : r_22 = if 1 ≤ (nI bb) ∧ (nI bb) ≤ 12 then 1 else 0 := hw_22
    have hPD : my_PD (dC, dI) vwCl A [(o, Sum.inr (9, mO g 0 fShift fModels fItems fEnded fLow fRange fCache fPend fGoes fOuts (nI is.length) fReads 0 fIR (nI q) fBAsk (lN CD) fRL (lN RR) fX fWrites 0)), ((g 8), Sum.inl (cI, 6000, Sum.inl vIn))] H := ⟨hP, hD⟩
    have hP := hPD.1
    have hD := hPD.2
    refine lv_if_ne (tgt := 31) hx hb d_M_getBits_25 (by decide) (fun c_2 => ?_) (fun c_2 => ?_)
    · refine lv_aload_n hx hb d_M_getBits_31 rfl (lv_at hl 0 rfl) ?_
      refine va_get (D := (dC, dI)) (ci := 9) (v := .int fReads) (C := "RangeCodersModel") (T := T_M) (N := 35) hx hb hg in_M hown hK hP 0 rfl rfl 21 (by decide) (hg _ k973) (fun _ h9 => h9) rfl d_M_getBits_32 ?_
      refine lv_if_ne (tgt := 41) hx hb d_M_getBits_35 (by decide) (fun c_3 => ?_) (fun c_3 => ?_)
      · refine lv_aload_n hx hb d_M_getBits_41 rfl (lv_at hl 0 rfl) ?_
        refine va_get (D := (dC, dI)) (ci := 9) (v := .int 0) (C := "RangeCodersModel") (T := T_M) (N := 35) hx hb hg in_M hown hK hP 0 rfl rfl 22 (by decide) (hg _ k974) (fun _ h9 => h9) rfl d_M_getBits_42 ?_
        refine lv_if_eq (tgt := 51) hx hb d_M_getBits_45 (by decide) (fun c_4 => ?_) (fun c_4 => ?_)
        · refine lv_aload_n hx hb d_M_getBits_51 rfl (lv_at hl 0 rfl) ?_
          refine lv_iload_n hx hb d_M_getBits_52 rfl (lv_at hl 1 rfl) ?_
          refine my_ci (wr := []) (va_runV (As := [Value.int (nI bb)]) (rest := []) ⟨hx, hb, hml, hown, hts⟩ (c_M_valueOf0 l dC dI cI cM cO H.size o g fShift fModels fItems fEnded fLow fRange fCache fPend fGoes fOuts fReads 0 fIR fBAsk fRL fX fWrites 0 vIn bb RR CD is q (hb1) (hb2) (hIn) (hlen) (hoct) (by omega) (hR1) (hC)) (cwV 1 hts (my_gV k1260 k1262 ks59 k12 k1263) rfl rfl rfl cu_M_valueOf_1 ⟨by rw [hR]; exact Nat.le_of_ble_eq_true rfl, by rw [hR]; exact Nat.le_of_ble_eq_true rfl⟩) (my_preV hK hN (hP.sub [0, 1] rfl) (hD.sub [0, 1] (by decide +kernel) rfl) 0 rfl rfl) rfl rfl hl.1 rfl (lv_room (Nat.le_of_ble_eq_true rfl)) d_M_getBits_53 ⟨by rw [hR]; exact Nat.le_of_ble_eq_true rfl, by rw [hR]; exact Nat.le_of_ble_eq_true rfl⟩) hP hD hS hA [0, 1] [] rfl rfl (by decide +kernel) (by decide +kernel) (fun r_53 u9 H locs hw_53 hP hD hS => ?_)
          have hw_53 : r_53 = oI (gv0 is bb (RR, CD, q)).1 := hw_53
          have hPD : my_PD (dC, dI) vwCl A [(o, Sum.inr (9, mO g 0 fShift fModels fItems fEnded fLow fRange fCache fPend fGoes fOuts (nI is.length) fReads 0 fIR (nI (gv0 is bb (RR, CD, q)).2.2.2) fBAsk (lN (gv0 is bb (RR, CD, q)).2.2.1) fRL (lN (gv0 is bb (RR, CD, q)).2.1) fX fWrites 0)), ((g 8), Sum.inl (cI, 6000, Sum.inl vIn))] H := ⟨hP, hD⟩
          have hP := hPD.1
          have hD := hPD.2
          refine lv_istore_n (lv' := [(2, Value.int r_53), (0, Value.ref o), (1, Value.int (nI bb))]) hx hb d_M_getBits_56 rfl hl (by decide) rfl (fun ls hl => ?_)
          have hr8 : r_53 = -1 := by rw [hw_53, hG]; rfl
          refine lv_iload_n hx hb d_M_getBits_57 rfl (lv_at hl 0 rfl) ?_
          refine lv_if_ge (tgt := 66) hx hb d_M_getBits_58 (by decide) (fun c_5 => ?_) (fun c_5 => ?_)
          · exact absurd c_5 (by rw [hr8]; decide)
          · refine lv_aload_n hx hb d_M_getBits_61 rfl (lv_at hl 1 rfl) ?_
            refine my_ci (wr := [((g 8), Sum.inl (cI, 6000, Sum.inl vIn))]) (va_runV (As := []) (rest := []) ⟨hx, hb, hml, hown, hts⟩ (c_M_spoiled l dC dI cI cM cO H.size o g 0 fShift fModels fItems fEnded fLow fRange fCache fPend fGoes fOuts (nI is.length) fReads 0 fIR (nI (gv0 is bb (RR, CD, q)).2.2.2) fBAsk (lN (gv0 is bb (RR, CD, q)).2.2.1) fRL (lN (gv0 is bb (RR, CD, q)).2.1) fX fWrites 0) (cwV 0 hts (my_gV k1252 k1254 ks58 k12 k1255) rfl rfl rfl cu_M_spoiled_0 ⟨by rw [hR]; exact Nat.le_of_ble_eq_true rfl, by rw [hR]; exact Nat.le_of_ble_eq_true rfl⟩) (my_preV hK hN (hP.sub [0] rfl) (hD.sub [0] (by decide +kernel) rfl) 0 rfl rfl) rfl rfl hl.1 rfl (lv_room (Nat.le_of_ble_eq_true rfl)) d_M_getBits_62 ⟨by rw [hR]; exact Nat.le_of_ble_eq_true rfl, by rw [hR]; exact Nat.le_of_ble_eq_true rfl⟩) hP hD hS hA [0] [1] rfl rfl (by decide +kernel) (by decide +kernel) (fun r_62 u9 H locs hw_62 hP hD hS => ?_)
            have hw_62 : r_62 = -5 := hw_62
            have hPD : my_PD (dC, dI) vwCl A [((g 8), Sum.inl (cI, 6000, Sum.inl vIn)), (o, Sum.inr (9, mO g 0 fShift fModels fItems fEnded fLow fRange fCache fPend fGoes fOuts (nI is.length) fReads 1 fIR (nI (gv0 is bb (RR, CD, q)).2.2.2) fBAsk (lN (gv0 is bb (RR, CD, q)).2.2.1) fRL (lN (gv0 is bb (RR, CD, q)).2.1) fX fWrites 0))] H := ⟨hP, hD⟩
            have hP := hPD.1
            have hD := hPD.2
            exact my_iret (v := r_62) hx hb hr (rfl) hlocks hQ hK hS (Nat.le_refl _) (Nat.le_refl _) () (hw_62) (hP.sub [1, 0] rfl) (hD.sub [1, 0] (by decide +kernel) rfl) d_M_getBits_65
        · exact absurd (by decide) c_4
      · exact absurd c_3 hrd
    · exact absurd (show 1 ≤ nI bb ∧ nI bb ≤ nI 12 from ⟨nI_le (a := 1) hb1 (by omega), nI_le hb2 (by decide)⟩) (one_eq hw_22 c_2)
  · exact absurd c_1 (by decide)
set_option maxHeartbeats 2000000 in
set_option maxRecDepth 100000 in
theorem m_gb1W (l : Launch) (dC : Nat → ClassId) (dI : Nat → Nat → Nat) (cI cM cO : ClassId) (sz : Nat) (o : Nat) (g : Nat → Nat) (fShift : Int32) (fModels : Int32) (fItems : Int32) (fEnded : Int32) (fLow : Int64) (fRange : Int64) (fCache : Int32) (fPend : Int32) (fGoes : Int32) (fOuts : Int32) (fIns : Int32) (fReads : Int32) (fBad : Int32) (fIR : Int32) (fAsk : Int32) (fBAsk : Int32) (fCode : Int64) (fRL : Int64) (fRR : Int64) (fX : Int64) (fWrites : Int32) (fThrown : Int32) (p1 : Int32) (hno : ¬ (1 ≤ p1 ∧ p1 ≤ nI 12)) : MetI l y_M_getBits (Cond.code y_M_getBits prog_14_method_57_code 3 (some .int) :: gw) ({ frames := 1, cells := 0, slots := 0, locals := 22 } : Room) (dC, dI) vwCl (kT cI cM cO) [Value.ref o, Value.int p1] [(o, Sum.inr (9, mO g 1 fShift fModels fItems fEnded fLow fRange fCache fPend fGoes fOuts fIns fReads fBad fIR fAsk fBAsk fCode fRL fRR fX fWrites fThrown))] sz (fun (r : Int32) (u : Unit) => r = -2) (fun (u : Unit) => [(o, Sum.inr (9, mO g 1 fShift fModels fItems fEnded fLow fRange fCache fPend fGoes fOuts fIns fReads fBad fIR fAsk fBAsk fCode fRL fRR fX fWrites 0))]) 0 0 := by
  refine my_ofI (cc := prog_14_method_57_code) (n := 3) (ret := (some .int)) (by decide) rfl (Nat.le_of_ble_eq_true rfl) ?_
  intro p e s m args below meth c R Q A ls H locs hx hb hr hts hown hlocks hml hnm hR hQ hA hl hP hK hN hD hS
  have hg : ∀ w ∈ gw, w.before args s = true := fun w h => hts w (List.mem_cons_of_mem _ h)
  have hown : s.vm.findClass "RangeCodersModel" = some m.cls := hown
  have hl : lv_has ls 3 [(0, Value.ref o), (1, Value.int p1)] := hl
  refine lv_aload_n hx hb d_M_getBits_0 rfl (lv_at hl 0 rfl) ?_
  refine lv_iconst (v := 0) hx hb d_M_getBits_1 (by decide) ?_
  refine va_put (D := (dC, dI)) (ci := 9) (v := .int 0) (ty := .int) (C := "RangeCodersModel") (T := T_M) (N := 35) hx hb hg in_M t_M o_M n_M hown hK hP hD hS 0 rfl rfl 34 (by decide) (hg _ k986) (fun _ h9 => h9) rfl (o_M 34 (by decide)) rfl rfl (Nat.le_of_ble_eq_true rfl) d_M_getBits_2 (fun H locs hP hD hS => ?_)
  have hPD : my_PD (dC, dI) vwCl A [(o, Sum.inr (9, mO g 1 fShift fModels fItems fEnded fLow fRange fCache fPend fGoes fOuts fIns fReads fBad fIR fAsk fBAsk fCode fRL fRR fX fWrites 0))] H := ⟨hP, hD⟩
  have hP := hPD.1
  have hD := hPD.2
  refine lv_iload_n hx hb d_M_getBits_5 rfl (lv_at hl 1 rfl) ?_
  refine lv_iconst (v := 1) hx hb d_M_getBits_6 (by decide) ?_
  refine lv_aload_n hx hb d_M_getBits_7 rfl (lv_at hl 0 rfl) ?_
  refine va_get (D := (dC, dI)) (ci := 9) (v := .int 1) (C := "RangeCodersModel") (T := T_M) (N := 35) hx hb hg in_M hown hK hP 0 rfl rfl 0 (by decide) (hg _ k952) (fun _ h9 => h9) rfl d_M_getBits_8 ?_
  refine lv_iconst (v := 4) hx hb d_M_getBits_11 (by decide) ?_
  refine lv_icmp_ne (tgt := 20) hx hb d_M_getBits_12 (by decide) (fun c_1 => ?_) (fun c_1 => ?_)
  · refine lv_bipush (v := 12) hx hb d_M_getBits_20 (by decide) ?_
    refine my_ci (wr := [(o, Sum.inr (9, mO g 1 fShift fModels fItems fEnded fLow fRange fCache fPend fGoes fOuts fIns fReads fBad fIR fAsk fBAsk fCode fRL fRR fX fWrites 0))]) (va_runS (As := [Value.int p1, Value.int 1, Value.int 12]) (rest := []) ⟨hx, hb, hml, hown, hts⟩ (c_M_in l dC dI cI cM cO H.size p1 1 12) (cwS 3 hts (my_gS k1062 k1063 k12 k1064) rfl rfl rfl (by decide +kernel) ⟨by rw [hR]; exact Nat.le_of_ble_eq_true rfl, by rw [hR]; exact Nat.le_of_ble_eq_true rfl⟩) (my_pre hK hN (hP.sub [] rfl) (hD.sub [] (by decide +kernel) rfl)) rfl rfl hl.1 rfl (lv_room (Nat.le_of_ble_eq_true rfl)) d_M_getBits_22 ⟨by rw [hR]; exact Nat.le_of_ble_eq_true rfl, by rw [hR]; exact Nat.le_of_ble_eq_true rfl⟩) hP hD hS hA [] [0] rfl rfl (by decide +kernel) (by decide +kernel) (fun r_22 u9 H locs hw_22 hP hD hS => ?_)
    have hw_22 : r_22 = if 1 ≤ p1 ∧ p1 ≤ 12 then 1 else 0 := hw_22
    have hPD : my_PD (dC, dI) vwCl A [(o, Sum.inr (9, mO g 1 fShift fModels fItems fEnded fLow fRange fCache fPend fGoes fOuts fIns fReads fBad fIR fAsk fBAsk fCode fRL fRR fX fWrites 0))] H := ⟨hP, hD⟩
    have hP := hPD.1
    have hD := hPD.2
    refine lv_if_ne (tgt := 31) hx hb d_M_getBits_25 (by decide) (fun c_2 => ?_) (fun c_2 => ?_)
    · exact absurd (one_ne hw_22 c_2) hno
    · refine lv_bipush (v := (-2)) hx hb d_M_getBits_28 (by decide) ?_
      exact my_iret (v := (-2)) hx hb hr (rfl) hlocks hQ hK hS (Nat.le_refl _) (Nat.le_refl _) () (rfl) (hP.sub [0] rfl) (hD.sub [0] (by decide +kernel) rfl) d_M_getBits_30
  · exact absurd c_1 (by decide)
set_option maxHeartbeats 2000000 in
set_option maxRecDepth 100000 in
theorem m_gb1N (l : Launch) (dC : Nat → ClassId) (dI : Nat → Nat → Nat) (cI cM cO : ClassId) (sz : Nat) (o : Nat) (g : Nat → Nat) (fShift : Int32) (fModels : Int32) (fItems : Int32) (fEnded : Int32) (fLow : Int64) (fRange : Int64) (fCache : Int32) (fPend : Int32) (fGoes : Int32) (fOuts : Int32) (fIns : Int32) (fReads : Int32) (fBad : Int32) (fIR : Int32) (fAsk : Int32) (fBAsk : Int32) (fCode : Int64) (fRL : Int64) (fRR : Int64) (fX : Int64) (fWrites : Int32) (fThrown : Int32) (bb : Nat) (hb1 : 1 ≤ bb) (hb2 : bb ≤ 12) (hrd : fReads = 0) : MetI l y_M_getBits (Cond.code y_M_getBits prog_14_method_57_code 3 (some .int) :: gw) ({ frames := 1, cells := 0, slots := 0, locals := 22 } : Room) (dC, dI) vwCl (kT cI cM cO) [Value.ref o, Value.int (nI bb)] [(o, Sum.inr (9, mO g 1 fShift fModels fItems fEnded fLow fRange fCache fPend fGoes fOuts fIns fReads fBad fIR fAsk fBAsk fCode fRL fRR fX fWrites fThrown))] sz (fun (r : Int32) (u : Unit) => r = -3) (fun (u : Unit) => [(o, Sum.inr (9, mO g 1 fShift fModels fItems fEnded fLow fRange fCache fPend fGoes fOuts fIns fReads fBad fIR fAsk fBAsk fCode fRL fRR fX fWrites 0))]) 0 0 := by
  refine my_ofI (cc := prog_14_method_57_code) (n := 3) (ret := (some .int)) (by decide) rfl (Nat.le_of_ble_eq_true rfl) ?_
  intro p e s m args below meth c R Q A ls H locs hx hb hr hts hown hlocks hml hnm hR hQ hA hl hP hK hN hD hS
  have hg : ∀ w ∈ gw, w.before args s = true := fun w h => hts w (List.mem_cons_of_mem _ h)
  have hown : s.vm.findClass "RangeCodersModel" = some m.cls := hown
  have hl : lv_has ls 3 [(0, Value.ref o), (1, Value.int (nI bb))] := hl
  refine lv_aload_n hx hb d_M_getBits_0 rfl (lv_at hl 0 rfl) ?_
  refine lv_iconst (v := 0) hx hb d_M_getBits_1 (by decide) ?_
  refine va_put (D := (dC, dI)) (ci := 9) (v := .int 0) (ty := .int) (C := "RangeCodersModel") (T := T_M) (N := 35) hx hb hg in_M t_M o_M n_M hown hK hP hD hS 0 rfl rfl 34 (by decide) (hg _ k986) (fun _ h9 => h9) rfl (o_M 34 (by decide)) rfl rfl (Nat.le_of_ble_eq_true rfl) d_M_getBits_2 (fun H locs hP hD hS => ?_)
  have hPD : my_PD (dC, dI) vwCl A [(o, Sum.inr (9, mO g 1 fShift fModels fItems fEnded fLow fRange fCache fPend fGoes fOuts fIns fReads fBad fIR fAsk fBAsk fCode fRL fRR fX fWrites 0))] H := ⟨hP, hD⟩
  have hP := hPD.1
  have hD := hPD.2
  refine lv_iload_n hx hb d_M_getBits_5 rfl (lv_at hl 1 rfl) ?_
  refine lv_iconst (v := 1) hx hb d_M_getBits_6 (by decide) ?_
  refine lv_aload_n hx hb d_M_getBits_7 rfl (lv_at hl 0 rfl) ?_
  refine va_get (D := (dC, dI)) (ci := 9) (v := .int 1) (C := "RangeCodersModel") (T := T_M) (N := 35) hx hb hg in_M hown hK hP 0 rfl rfl 0 (by decide) (hg _ k952) (fun _ h9 => h9) rfl d_M_getBits_8 ?_
  refine lv_iconst (v := 4) hx hb d_M_getBits_11 (by decide) ?_
  refine lv_icmp_ne (tgt := 20) hx hb d_M_getBits_12 (by decide) (fun c_1 => ?_) (fun c_1 => ?_)
  · refine lv_bipush (v := 12) hx hb d_M_getBits_20 (by decide) ?_
    refine my_ci (wr := [(o, Sum.inr (9, mO g 1 fShift fModels fItems fEnded fLow fRange fCache fPend fGoes fOuts fIns fReads fBad fIR fAsk fBAsk fCode fRL fRR fX fWrites 0))]) (va_runS (As := [Value.int (nI bb), Value.int 1, Value.int 12]) (rest := []) ⟨hx, hb, hml, hown, hts⟩ (c_M_in l dC dI cI cM cO H.size (nI bb) 1 12) (cwS 3 hts (my_gS k1062 k1063 k12 k1064) rfl rfl rfl (by decide +kernel) ⟨by rw [hR]; exact Nat.le_of_ble_eq_true rfl, by rw [hR]; exact Nat.le_of_ble_eq_true rfl⟩) (my_pre hK hN (hP.sub [] rfl) (hD.sub [] (by decide +kernel) rfl)) rfl rfl hl.1 rfl (lv_room (Nat.le_of_ble_eq_true rfl)) d_M_getBits_22 ⟨by rw [hR]; exact Nat.le_of_ble_eq_true rfl, by rw [hR]; exact Nat.le_of_ble_eq_true rfl⟩) hP hD hS hA [] [0] rfl rfl (by decide +kernel) (by decide +kernel) (fun r_22 u9 H locs hw_22 hP hD hS => ?_)
    have hw_22 : r_22 = if 1 ≤ (nI bb) ∧ (nI bb) ≤ 12 then 1 else 0 := hw_22
    have hPD : my_PD (dC, dI) vwCl A [(o, Sum.inr (9, mO g 1 fShift fModels fItems fEnded fLow fRange fCache fPend fGoes fOuts fIns fReads fBad fIR fAsk fBAsk fCode fRL fRR fX fWrites 0))] H := ⟨hP, hD⟩
    have hP := hPD.1
    have hD := hPD.2
    refine lv_if_ne (tgt := 31) hx hb d_M_getBits_25 (by decide) (fun c_2 => ?_) (fun c_2 => ?_)
    · refine lv_aload_n hx hb d_M_getBits_31 rfl (lv_at hl 0 rfl) ?_
      refine va_get (D := (dC, dI)) (ci := 9) (v := .int fReads) (C := "RangeCodersModel") (T := T_M) (N := 35) hx hb hg in_M hown hK hP 0 rfl rfl 21 (by decide) (hg _ k973) (fun _ h9 => h9) rfl d_M_getBits_32 ?_
      refine lv_if_ne (tgt := 41) hx hb d_M_getBits_35 (by decide) (fun c_3 => ?_) (fun c_3 => ?_)
      · exact absurd hrd c_3
      · refine lv_bipush (v := (-3)) hx hb d_M_getBits_38 (by decide) ?_
        exact my_iret (v := (-3)) hx hb hr (rfl) hlocks hQ hK hS (Nat.le_refl _) (Nat.le_refl _) () (rfl) (hP.sub [0] rfl) (hD.sub [0] (by decide +kernel) rfl) d_M_getBits_40
    · exact absurd (show 1 ≤ nI bb ∧ nI bb ≤ nI 12 from ⟨nI_le (a := 1) hb1 (by omega), nI_le hb2 (by decide)⟩) (one_eq hw_22 c_2)
  · exact absurd c_1 (by decide)
set_option maxHeartbeats 2000000 in
set_option maxRecDepth 100000 in
theorem m_gb1B (l : Launch) (dC : Nat → ClassId) (dI : Nat → Nat → Nat) (cI cM cO : ClassId) (sz : Nat) (o : Nat) (g : Nat → Nat) (fShift : Int32) (fModels : Int32) (fItems : Int32) (fEnded : Int32) (fLow : Int64) (fRange : Int64) (fCache : Int32) (fPend : Int32) (fGoes : Int32) (fOuts : Int32) (fIns : Int32) (fReads : Int32) (fBad : Int32) (fIR : Int32) (fAsk : Int32) (fBAsk : Int32) (fCode : Int64) (fRL : Int64) (fRR : Int64) (fX : Int64) (fWrites : Int32) (fThrown : Int32) (bb : Nat) (hb1 : 1 ≤ bb) (hb2 : bb ≤ 12) (hrd : ¬ fReads = 0) (hbd : ¬ fBad = 0) : MetI l y_M_getBits (Cond.code y_M_getBits prog_14_method_57_code 3 (some .int) :: gw) ({ frames := 1, cells := 0, slots := 0, locals := 22 } : Room) (dC, dI) vwCl (kT cI cM cO) [Value.ref o, Value.int (nI bb)] [(o, Sum.inr (9, mO g 1 fShift fModels fItems fEnded fLow fRange fCache fPend fGoes fOuts fIns fReads fBad fIR fAsk fBAsk fCode fRL fRR fX fWrites fThrown))] sz (fun (r : Int32) (u : Unit) => r = -5) (fun (u : Unit) => [(o, Sum.inr (9, mO g 1 fShift fModels fItems fEnded fLow fRange fCache fPend fGoes fOuts fIns fReads fBad fIR fAsk fBAsk fCode fRL fRR fX fWrites 0))]) 0 0 := by
  refine my_ofI (cc := prog_14_method_57_code) (n := 3) (ret := (some .int)) (by decide) rfl (Nat.le_of_ble_eq_true rfl) ?_
  intro p e s m args below meth c R Q A ls H locs hx hb hr hts hown hlocks hml hnm hR hQ hA hl hP hK hN hD hS
  have hg : ∀ w ∈ gw, w.before args s = true := fun w h => hts w (List.mem_cons_of_mem _ h)
  have hown : s.vm.findClass "RangeCodersModel" = some m.cls := hown
  have hl : lv_has ls 3 [(0, Value.ref o), (1, Value.int (nI bb))] := hl
  refine lv_aload_n hx hb d_M_getBits_0 rfl (lv_at hl 0 rfl) ?_
  refine lv_iconst (v := 0) hx hb d_M_getBits_1 (by decide) ?_
  refine va_put (D := (dC, dI)) (ci := 9) (v := .int 0) (ty := .int) (C := "RangeCodersModel") (T := T_M) (N := 35) hx hb hg in_M t_M o_M n_M hown hK hP hD hS 0 rfl rfl 34 (by decide) (hg _ k986) (fun _ h9 => h9) rfl (o_M 34 (by decide)) rfl rfl (Nat.le_of_ble_eq_true rfl) d_M_getBits_2 (fun H locs hP hD hS => ?_)
  have hPD : my_PD (dC, dI) vwCl A [(o, Sum.inr (9, mO g 1 fShift fModels fItems fEnded fLow fRange fCache fPend fGoes fOuts fIns fReads fBad fIR fAsk fBAsk fCode fRL fRR fX fWrites 0))] H := ⟨hP, hD⟩
  have hP := hPD.1
  have hD := hPD.2
  refine lv_iload_n hx hb d_M_getBits_5 rfl (lv_at hl 1 rfl) ?_
  refine lv_iconst (v := 1) hx hb d_M_getBits_6 (by decide) ?_
  refine lv_aload_n hx hb d_M_getBits_7 rfl (lv_at hl 0 rfl) ?_
  refine va_get (D := (dC, dI)) (ci := 9) (v := .int 1) (C := "RangeCodersModel") (T := T_M) (N := 35) hx hb hg in_M hown hK hP 0 rfl rfl 0 (by decide) (hg _ k952) (fun _ h9 => h9) rfl d_M_getBits_8 ?_
  refine lv_iconst (v := 4) hx hb d_M_getBits_11 (by decide) ?_
  refine lv_icmp_ne (tgt := 20) hx hb d_M_getBits_12 (by decide) (fun c_1 => ?_) (fun c_1 => ?_)
  · refine lv_bipush (v := 12) hx hb d_M_getBits_20 (by decide) ?_
    refine my_ci (wr := [(o, Sum.inr (9, mO g 1 fShift fModels fItems fEnded fLow fRange fCache fPend fGoes fOuts fIns fReads fBad fIR fAsk fBAsk fCode fRL fRR fX fWrites 0))]) (va_runS (As := [Value.int (nI bb), Value.int 1, Value.int 12]) (rest := []) ⟨hx, hb, hml, hown, hts⟩ (c_M_in l dC dI cI cM cO H.size (nI bb) 1 12) (cwS 3 hts (my_gS k1062 k1063 k12 k1064) rfl rfl rfl (by decide +kernel) ⟨by rw [hR]; exact Nat.le_of_ble_eq_true rfl, by rw [hR]; exact Nat.le_of_ble_eq_true rfl⟩) (my_pre hK hN (hP.sub [] rfl) (hD.sub [] (by decide +kernel) rfl)) rfl rfl hl.1 rfl (lv_room (Nat.le_of_ble_eq_true rfl)) d_M_getBits_22 ⟨by rw [hR]; exact Nat.le_of_ble_eq_true rfl, by rw [hR]; exact Nat.le_of_ble_eq_true rfl⟩) hP hD hS hA [] [0] rfl rfl (by decide +kernel) (by decide +kernel) (fun r_22 u9 H locs hw_22 hP hD hS => ?_)
    have hw_22 : r_22 = if 1 ≤ (nI bb) ∧ (nI bb) ≤ 12 then 1 else 0 := hw_22
    have hPD : my_PD (dC, dI) vwCl A [(o, Sum.inr (9, mO g 1 fShift fModels fItems fEnded fLow fRange fCache fPend fGoes fOuts fIns fReads fBad fIR fAsk fBAsk fCode fRL fRR fX fWrites 0))] H := ⟨hP, hD⟩
    have hP := hPD.1
    have hD := hPD.2
    refine lv_if_ne (tgt := 31) hx hb d_M_getBits_25 (by decide) (fun c_2 => ?_) (fun c_2 => ?_)
    · refine lv_aload_n hx hb d_M_getBits_31 rfl (lv_at hl 0 rfl) ?_
      refine va_get (D := (dC, dI)) (ci := 9) (v := .int fReads) (C := "RangeCodersModel") (T := T_M) (N := 35) hx hb hg in_M hown hK hP 0 rfl rfl 21 (by decide) (hg _ k973) (fun _ h9 => h9) rfl d_M_getBits_32 ?_
      refine lv_if_ne (tgt := 41) hx hb d_M_getBits_35 (by decide) (fun c_3 => ?_) (fun c_3 => ?_)
      · refine lv_aload_n hx hb d_M_getBits_41 rfl (lv_at hl 0 rfl) ?_
        refine va_get (D := (dC, dI)) (ci := 9) (v := .int fBad) (C := "RangeCodersModel") (T := T_M) (N := 35) hx hb hg in_M hown hK hP 0 rfl rfl 22 (by decide) (hg _ k974) (fun _ h9 => h9) rfl d_M_getBits_42 ?_
        refine lv_if_eq (tgt := 51) hx hb d_M_getBits_45 (by decide) (fun c_4 => ?_) (fun c_4 => ?_)
        · exact absurd c_4 hbd
        · refine lv_bipush (v := (-5)) hx hb d_M_getBits_48 (by decide) ?_
          exact my_iret (v := (-5)) hx hb hr (rfl) hlocks hQ hK hS (Nat.le_refl _) (Nat.le_refl _) () (rfl) (hP.sub [0] rfl) (hD.sub [0] (by decide +kernel) rfl) d_M_getBits_50
      · exact absurd c_3 hrd
    · exact absurd (show 1 ≤ nI bb ∧ nI bb ≤ nI 12 from ⟨nI_le (a := 1) hb1 (by omega), nI_le hb2 (by decide)⟩) (one_eq hw_22 c_2)
  · exact absurd c_1 (by decide)
set_option maxHeartbeats 2000000 in
set_option maxRecDepth 100000 in
theorem m_gb1L (l : Launch) (dC : Nat → ClassId) (dI : Nat → Nat → Nat) (cI cM cO : ClassId) (sz : Nat) (o : Nat) (g : Nat → Nat) (fShift : Int32) (fModels : Int32) (fItems : Int32) (fEnded : Int32) (fLow : Int64) (fRange : Int64) (fCache : Int32) (fPend : Int32) (fGoes : Int32) (fOuts : Int32) (fReads : Int32) (fIR : Int32) (fBAsk : Int32) (fX : Int64) (fWrites : Int32) (fThrown : Int32) (vIn : Nat → Int32) (bb : Nat) (RR : Nat) (L : Nat) (CD : Nat) (is : List Nat) (q : Nat) (s9 : Nat) (hb1 : 1 ≤ bb) (hb2 : bb ≤ 12) (hrd : ¬ fReads = 0) (hp : pOk RR L) (hC : CD < 4294967296) (hIn : gIs vIn is) (hlen : is.length ≤ 6000) (hoct : oct is) (hq : q < 700000) (hG : (gv1 is bb (RR, L, CD, q)).1 = some s9) (hs9 : s9 < 2147483648) : MetI l y_M_getBits (Cond.code y_M_getBits prog_14_method_57_code 3 (some .int) :: gw) ({ frames := 4, cells := 0, slots := 0, locals := 92 } : Room) (dC, dI) vwCl (kT cI cM cO) [Value.ref o, Value.int (nI bb)] [(o, Sum.inr (9, mO g 1 fShift fModels fItems fEnded fLow fRange fCache fPend fGoes fOuts (nI is.length) fReads 0 fIR (nI q) fBAsk (lN CD) (lN L) (lN RR) fX fWrites fThrown)), ((g 8), Sum.inl (cI, 6000, Sum.inl vIn))] sz (fun (r : Int32) (u : Int32) => r = nI s9) (fun (u : Int32) => [(o, Sum.inr (9, mO g 1 fShift fModels fItems fEnded fLow fRange fCache fPend fGoes fOuts (nI is.length) fReads 0 u (nI (gv1 is bb (RR, L, CD, q)).2.2.2.2) fBAsk (lN (gv1 is bb (RR, L, CD, q)).2.2.2.1) (lN (gv1 is bb (RR, L, CD, q)).2.2.1) (lN (gv1 is bb (RR, L, CD, q)).2.1) fX fWrites 0)), ((g 8), Sum.inl (cI, 6000, Sum.inl vIn))]) 0 0 := by
  refine my_ofI (cc := prog_14_method_57_code) (n := 3) (ret := (some .int)) (by decide) rfl (Nat.le_of_ble_eq_true rfl) ?_
  intro p e s m args below meth c R Q A ls H locs hx hb hr hts hown hlocks hml hnm hR hQ hA hl hP hK hN hD hS
  have hg : ∀ w ∈ gw, w.before args s = true := fun w h => hts w (List.mem_cons_of_mem _ h)
  have hown : s.vm.findClass "RangeCodersModel" = some m.cls := hown
  have hl : lv_has ls 3 [(0, Value.ref o), (1, Value.int (nI bb))] := hl
  refine lv_aload_n hx hb d_M_getBits_0 rfl (lv_at hl 0 rfl) ?_
  refine lv_iconst (v := 0) hx hb d_M_getBits_1 (by decide) ?_
  refine va_put (D := (dC, dI)) (ci := 9) (v := .int 0) (ty := .int) (C := "RangeCodersModel") (T := T_M) (N := 35) hx hb hg in_M t_M o_M n_M hown hK hP hD hS 0 rfl rfl 34 (by decide) (hg _ k986) (fun _ h9 => h9) rfl (o_M 34 (by decide)) rfl rfl (Nat.le_of_ble_eq_true rfl) d_M_getBits_2 (fun H locs hP hD hS => ?_)
  have hPD : my_PD (dC, dI) vwCl A [(o, Sum.inr (9, mO g 1 fShift fModels fItems fEnded fLow fRange fCache fPend fGoes fOuts (nI is.length) fReads 0 fIR (nI q) fBAsk (lN CD) (lN L) (lN RR) fX fWrites 0)), ((g 8), Sum.inl (cI, 6000, Sum.inl vIn))] H := ⟨hP, hD⟩
  have hP := hPD.1
  have hD := hPD.2
  refine lv_iload_n hx hb d_M_getBits_5 rfl (lv_at hl 1 rfl) ?_
  refine lv_iconst (v := 1) hx hb d_M_getBits_6 (by decide) ?_
  refine lv_aload_n hx hb d_M_getBits_7 rfl (lv_at hl 0 rfl) ?_
  refine va_get (D := (dC, dI)) (ci := 9) (v := .int 1) (C := "RangeCodersModel") (T := T_M) (N := 35) hx hb hg in_M hown hK hP 0 rfl rfl 0 (by decide) (hg _ k952) (fun _ h9 => h9) rfl d_M_getBits_8 ?_
  refine lv_iconst (v := 4) hx hb d_M_getBits_11 (by decide) ?_
  refine lv_icmp_ne (tgt := 20) hx hb d_M_getBits_12 (by decide) (fun c_1 => ?_) (fun c_1 => ?_)
  · refine lv_bipush (v := 12) hx hb d_M_getBits_20 (by decide) ?_
    refine my_ci (wr := [(o, Sum.inr (9, mO g 1 fShift fModels fItems fEnded fLow fRange fCache fPend fGoes fOuts (nI is.length) fReads 0 fIR (nI q) fBAsk (lN CD) (lN L) (lN RR) fX fWrites 0)), ((g 8), Sum.inl (cI, 6000, Sum.inl vIn))]) (va_runS (As := [Value.int (nI bb), Value.int 1, Value.int 12]) (rest := []) ⟨hx, hb, hml, hown, hts⟩ (c_M_in l dC dI cI cM cO H.size (nI bb) 1 12) (cwS 3 hts (my_gS k1062 k1063 k12 k1064) rfl rfl rfl (by decide +kernel) ⟨by rw [hR]; exact Nat.le_of_ble_eq_true rfl, by rw [hR]; exact Nat.le_of_ble_eq_true rfl⟩) (my_pre hK hN (hP.sub [] rfl) (hD.sub [] (by decide +kernel) rfl)) rfl rfl hl.1 rfl (lv_room (Nat.le_of_ble_eq_true rfl)) d_M_getBits_22 ⟨by rw [hR]; exact Nat.le_of_ble_eq_true rfl, by rw [hR]; exact Nat.le_of_ble_eq_true rfl⟩) hP hD hS hA [] [0, 1] rfl rfl (by decide +kernel) (by decide +kernel) (fun r_22 u9 H locs hw_22 hP hD hS => ?_)
    have hw_22 : r_22 = if 1 ≤ (nI bb) ∧ (nI bb) ≤ 12 then 1 else 0 := hw_22
    have hPD : my_PD (dC, dI) vwCl A [(o, Sum.inr (9, mO g 1 fShift fModels fItems fEnded fLow fRange fCache fPend fGoes fOuts (nI is.length) fReads 0 fIR (nI q) fBAsk (lN CD) (lN L) (lN RR) fX fWrites 0)), ((g 8), Sum.inl (cI, 6000, Sum.inl vIn))] H := ⟨hP, hD⟩
    have hP := hPD.1
    have hD := hPD.2
    refine lv_if_ne (tgt := 31) hx hb d_M_getBits_25 (by decide) (fun c_2 => ?_) (fun c_2 => ?_)
    · refine lv_aload_n hx hb d_M_getBits_31 rfl (lv_at hl 0 rfl) ?_
      refine va_get (D := (dC, dI)) (ci := 9) (v := .int fReads) (C := "RangeCodersModel") (T := T_M) (N := 35) hx hb hg in_M hown hK hP 0 rfl rfl 21 (by decide) (hg _ k973) (fun _ h9 => h9) rfl d_M_getBits_32 ?_
      refine lv_if_ne (tgt := 41) hx hb d_M_getBits_35 (by decide) (fun c_3 => ?_) (fun c_3 => ?_)
      · refine lv_aload_n hx hb d_M_getBits_41 rfl (lv_at hl 0 rfl) ?_
        refine va_get (D := (dC, dI)) (ci := 9) (v := .int 0) (C := "RangeCodersModel") (T := T_M) (N := 35) hx hb hg in_M hown hK hP 0 rfl rfl 22 (by decide) (hg _ k974) (fun _ h9 => h9) rfl d_M_getBits_42 ?_
        refine lv_if_eq (tgt := 51) hx hb d_M_getBits_45 (by decide) (fun c_4 => ?_) (fun c_4 => ?_)
        · refine lv_aload_n hx hb d_M_getBits_51 rfl (lv_at hl 0 rfl) ?_
          refine lv_iload_n hx hb d_M_getBits_52 rfl (lv_at hl 1 rfl) ?_
          refine my_ci (wr := []) (va_runV (As := [Value.int (nI bb)]) (rest := []) ⟨hx, hb, hml, hown, hts⟩ (c_M_valueOf1 l dC dI cI cM cO H.size o g fShift fModels fItems fEnded fLow fRange fCache fPend fGoes fOuts fReads 0 fIR fBAsk fX fWrites 0 vIn bb RR L CD is q (hb1) (hb2) (hIn) (hlen) (hoct) (by omega) (hp) (hC)) (cwV 1 hts (my_gV k1260 k1262 ks59 k12 k1263) rfl rfl rfl cu_M_valueOf_1 ⟨by rw [hR]; exact Nat.le_of_ble_eq_true rfl, by rw [hR]; exact Nat.le_of_ble_eq_true rfl⟩) (my_preV hK hN (hP.sub [0, 1] rfl) (hD.sub [0, 1] (by decide +kernel) rfl) 0 rfl rfl) rfl rfl hl.1 rfl (lv_room (Nat.le_of_ble_eq_true rfl)) d_M_getBits_53 ⟨by rw [hR]; exact Nat.le_of_ble_eq_true rfl, by rw [hR]; exact Nat.le_of_ble_eq_true rfl⟩) hP hD hS hA [0, 1] [] rfl rfl (by decide +kernel) (by decide +kernel) (fun r_53 u9 H locs hw_53 hP hD hS => ?_)
          have hw_53 : r_53 = oI (gv1 is bb (RR, L, CD, q)).1 := hw_53
          have hPD : my_PD (dC, dI) vwCl A [(o, Sum.inr (9, mO g 1 fShift fModels fItems fEnded fLow fRange fCache fPend fGoes fOuts (nI is.length) fReads 0 fIR (nI (gv1 is bb (RR, L, CD, q)).2.2.2.2) fBAsk (lN (gv1 is bb (RR, L, CD, q)).2.2.2.1) (lN (gv1 is bb (RR, L, CD, q)).2.2.1) (lN (gv1 is bb (RR, L, CD, q)).2.1) fX fWrites 0)), ((g 8), Sum.inl (cI, 6000, Sum.inl vIn))] H := ⟨hP, hD⟩
          have hP := hPD.1
          have hD := hPD.2
          refine lv_istore_n (lv' := [(2, Value.int r_53), (0, Value.ref o), (1, Value.int (nI bb))]) hx hb d_M_getBits_56 rfl hl (by decide) rfl (fun ls hl => ?_)
          have hr8 : r_53 = nI s9 := by rw [hw_53, hG]; rfl
          refine lv_iload_n hx hb d_M_getBits_57 rfl (lv_at hl 0 rfl) ?_
          refine lv_if_ge (tgt := 66) hx hb d_M_getBits_58 (by decide) (fun c_5 => ?_) (fun c_5 => ?_)
          · refine lv_aload_n hx hb d_M_getBits_66 rfl (lv_at hl 1 rfl) ?_
            refine lv_dup hx hb d_M_getBits_67 rfl ?_
            refine va_get (D := (dC, dI)) (ci := 9) (v := .int fIR) (C := "RangeCodersModel") (T := T_M) (N := 35) hx hb hg in_M hown hK hP 0 rfl rfl 23 (by decide) (hg _ k975) (fun _ h9 => h9) rfl d_M_getBits_68 ?_
            refine lv_iconst (v := 1) hx hb d_M_getBits_71 (by decide) ?_
            refine lv_iadd hx hb d_M_getBits_72 ?_
            refine lv_topi (fun v_6 ev_6 => ?_)
            refine va_put (D := (dC, dI)) (ci := 9) (v := .int v_6) (ty := .int) (C := "RangeCodersModel") (T := T_M) (N := 35) hx hb hg in_M t_M o_M n_M hown hK hP hD hS 0 rfl rfl 23 (by decide) (hg _ k975) (fun _ h9 => h9) rfl (o_M 23 (by decide)) rfl rfl (Nat.le_of_ble_eq_true rfl) d_M_getBits_73 (fun H locs hP hD hS => ?_)
            have hPD : my_PD (dC, dI) vwCl A [(o, Sum.inr (9, mO g 1 fShift fModels fItems fEnded fLow fRange fCache fPend fGoes fOuts (nI is.length) fReads 0 v_6 (nI (gv1 is bb (RR, L, CD, q)).2.2.2.2) fBAsk (lN (gv1 is bb (RR, L, CD, q)).2.2.2.1) (lN (gv1 is bb (RR, L, CD, q)).2.2.1) (lN (gv1 is bb (RR, L, CD, q)).2.1) fX fWrites 0)), ((g 8), Sum.inl (cI, 6000, Sum.inl vIn))] H := ⟨hP, hD⟩
            have hP := hPD.1
            have hD := hPD.2
            refine lv_iload_n hx hb d_M_getBits_76 rfl (lv_at hl 0 rfl) ?_
            exact my_iret (v := r_53) hx hb hr (rfl) hlocks hQ hK hS (Nat.le_refl _) (Nat.le_refl _) (v_6) (hr8) (hP.sub [0, 1] rfl) (hD.sub [0, 1] (by decide +kernel) rfl) d_M_getBits_77
          · exact absurd (by rw [hr8]; exact nI_pos' hs9) c_5
        · exact absurd (by decide) c_4
      · exact absurd c_3 hrd
    · exact absurd (show 1 ≤ nI bb ∧ nI bb ≤ nI 12 from ⟨nI_le (a := 1) hb1 (by omega), nI_le hb2 (by decide)⟩) (one_eq hw_22 c_2)
  · exact absurd c_1 (by decide)
set_option maxHeartbeats 2000000 in
set_option maxRecDepth 100000 in
theorem m_gb1X (l : Launch) (dC : Nat → ClassId) (dI : Nat → Nat → Nat) (cI cM cO : ClassId) (sz : Nat) (o : Nat) (g : Nat → Nat) (fShift : Int32) (fModels : Int32) (fItems : Int32) (fEnded : Int32) (fLow : Int64) (fRange : Int64) (fCache : Int32) (fPend : Int32) (fGoes : Int32) (fOuts : Int32) (fReads : Int32) (fIR : Int32) (fBAsk : Int32) (fX : Int64) (fWrites : Int32) (fThrown : Int32) (vIn : Nat → Int32) (bb : Nat) (RR : Nat) (L : Nat) (CD : Nat) (is : List Nat) (q : Nat) (hb1 : 1 ≤ bb) (hb2 : bb ≤ 12) (hrd : ¬ fReads = 0) (hp : pOk RR L) (hC : CD < 4294967296) (hIn : gIs vIn is) (hlen : is.length ≤ 6000) (hoct : oct is) (hq : q < 700000) (hG : (gv1 is bb (RR, L, CD, q)).1 = none) : MetI l y_M_getBits (Cond.code y_M_getBits prog_14_method_57_code 3 (some .int) :: gw) ({ frames := 4, cells := 0, slots := 0, locals := 92 } : Room) (dC, dI) vwCl (kT cI cM cO) [Value.ref o, Value.int (nI bb)] [(o, Sum.inr (9, mO g 1 fShift fModels fItems fEnded fLow fRange fCache fPend fGoes fOuts (nI is.length) fReads 0 fIR (nI q) fBAsk (lN CD) (lN L) (lN RR) fX fWrites fThrown)), ((g 8), Sum.inl (cI, 6000, Sum.inl vIn))] sz (fun (r : Int32) (u : Unit) => r = -5) (fun (u : Unit) => [(o, Sum.inr (9, mO g 1 fShift fModels fItems fEnded fLow fRange fCache fPend fGoes fOuts (nI is.length) fReads 1 fIR (nI (gv1 is bb (RR, L, CD, q)).2.2.2.2) fBAsk (lN (gv1 is bb (RR, L, CD, q)).2.2.2.1) (lN (gv1 is bb (RR, L, CD, q)).2.2.1) (lN (gv1 is bb (RR, L, CD, q)).2.1) fX fWrites 0)), ((g 8), Sum.inl (cI, 6000, Sum.inl vIn))]) 0 0 := by
  refine my_ofI (cc := prog_14_method_57_code) (n := 3) (ret := (some .int)) (by decide) rfl (Nat.le_of_ble_eq_true rfl) ?_
  intro p e s m args below meth c R Q A ls H locs hx hb hr hts hown hlocks hml hnm hR hQ hA hl hP hK hN hD hS
  have hg : ∀ w ∈ gw, w.before args s = true := fun w h => hts w (List.mem_cons_of_mem _ h)
  have hown : s.vm.findClass "RangeCodersModel" = some m.cls := hown
  have hl : lv_has ls 3 [(0, Value.ref o), (1, Value.int (nI bb))] := hl
  refine lv_aload_n hx hb d_M_getBits_0 rfl (lv_at hl 0 rfl) ?_
  refine lv_iconst (v := 0) hx hb d_M_getBits_1 (by decide) ?_
  refine va_put (D := (dC, dI)) (ci := 9) (v := .int 0) (ty := .int) (C := "RangeCodersModel") (T := T_M) (N := 35) hx hb hg in_M t_M o_M n_M hown hK hP hD hS 0 rfl rfl 34 (by decide) (hg _ k986) (fun _ h9 => h9) rfl (o_M 34 (by decide)) rfl rfl (Nat.le_of_ble_eq_true rfl) d_M_getBits_2 (fun H locs hP hD hS => ?_)
  have hPD : my_PD (dC, dI) vwCl A [(o, Sum.inr (9, mO g 1 fShift fModels fItems fEnded fLow fRange fCache fPend fGoes fOuts (nI is.length) fReads 0 fIR (nI q) fBAsk (lN CD) (lN L) (lN RR) fX fWrites 0)), ((g 8), Sum.inl (cI, 6000, Sum.inl vIn))] H := ⟨hP, hD⟩
  have hP := hPD.1
  have hD := hPD.2
  refine lv_iload_n hx hb d_M_getBits_5 rfl (lv_at hl 1 rfl) ?_
  refine lv_iconst (v := 1) hx hb d_M_getBits_6 (by decide) ?_
  refine lv_aload_n hx hb d_M_getBits_7 rfl (lv_at hl 0 rfl) ?_
  refine va_get (D := (dC, dI)) (ci := 9) (v := .int 1) (C := "RangeCodersModel") (T := T_M) (N := 35) hx hb hg in_M hown hK hP 0 rfl rfl 0 (by decide) (hg _ k952) (fun _ h9 => h9) rfl d_M_getBits_8 ?_
  refine lv_iconst (v := 4) hx hb d_M_getBits_11 (by decide) ?_
  refine lv_icmp_ne (tgt := 20) hx hb d_M_getBits_12 (by decide) (fun c_1 => ?_) (fun c_1 => ?_)
  · refine lv_bipush (v := 12) hx hb d_M_getBits_20 (by decide) ?_
    refine my_ci (wr := [(o, Sum.inr (9, mO g 1 fShift fModels fItems fEnded fLow fRange fCache fPend fGoes fOuts (nI is.length) fReads 0 fIR (nI q) fBAsk (lN CD) (lN L) (lN RR) fX fWrites 0)), ((g 8), Sum.inl (cI, 6000, Sum.inl vIn))]) (va_runS (As := [Value.int (nI bb), Value.int 1, Value.int 12]) (rest := []) ⟨hx, hb, hml, hown, hts⟩ (c_M_in l dC dI cI cM cO H.size (nI bb) 1 12) (cwS 3 hts (my_gS k1062 k1063 k12 k1064) rfl rfl rfl (by decide +kernel) ⟨by rw [hR]; exact Nat.le_of_ble_eq_true rfl, by rw [hR]; exact Nat.le_of_ble_eq_true rfl⟩) (my_pre hK hN (hP.sub [] rfl) (hD.sub [] (by decide +kernel) rfl)) rfl rfl hl.1 rfl (lv_room (Nat.le_of_ble_eq_true rfl)) d_M_getBits_22 ⟨by rw [hR]; exact Nat.le_of_ble_eq_true rfl, by rw [hR]; exact Nat.le_of_ble_eq_true rfl⟩) hP hD hS hA [] [0, 1] rfl rfl (by decide +kernel) (by decide +kernel) (fun r_22 u9 H locs hw_22 hP hD hS => ?_)
    have hw_22 : r_22 = if 1 ≤ (nI bb) ∧ (nI bb) ≤ 12 then 1 else 0 := hw_22
    have hPD : my_PD (dC, dI) vwCl A [(o, Sum.inr (9, mO g 1 fShift fModels fItems fEnded fLow fRange fCache fPend fGoes fOuts (nI is.length) fReads 0 fIR (nI q) fBAsk (lN CD) (lN L) (lN RR) fX fWrites 0)), ((g 8), Sum.inl (cI, 6000, Sum.inl vIn))] H := ⟨hP, hD⟩
    have hP := hPD.1
    have hD := hPD.2
    refine lv_if_ne (tgt := 31) hx hb d_M_getBits_25 (by decide) (fun c_2 => ?_) (fun c_2 => ?_)
    · refine lv_aload_n hx hb d_M_getBits_31 rfl (lv_at hl 0 rfl) ?_
      refine va_get (D := (dC, dI)) (ci := 9) (v := .int fReads) (C := "RangeCodersModel") (T := T_M) (N := 35) hx hb hg in_M hown hK hP 0 rfl rfl 21 (by decide) (hg _ k973) (fun _ h9 => h9) rfl d_M_getBits_32 ?_
      refine lv_if_ne (tgt := 41) hx hb d_M_getBits_35 (by decide) (fun c_3 => ?_) (fun c_3 => ?_)
      · refine lv_aload_n hx hb d_M_getBits_41 rfl (lv_at hl 0 rfl) ?_
        refine va_get (D := (dC, dI)) (ci := 9) (v := .int 0) (C := "RangeCodersModel") (T := T_M) (N := 35) hx hb hg in_M hown hK hP 0 rfl rfl 22 (by decide) (hg _ k974) (fun _ h9 => h9) rfl d_M_getBits_42 ?_
        refine lv_if_eq (tgt := 51) hx hb d_M_getBits_45 (by decide) (fun c_4 => ?_) (fun c_4 => ?_)
        · refine lv_aload_n hx hb d_M_getBits_51 rfl (lv_at hl 0 rfl) ?_
          refine lv_iload_n hx hb d_M_getBits_52 rfl (lv_at hl 1 rfl) ?_
          refine my_ci (wr := []) (va_runV (As := [Value.int (nI bb)]) (rest := []) ⟨hx, hb, hml, hown, hts⟩ (c_M_valueOf1 l dC dI cI cM cO H.size o g fShift fModels fItems fEnded fLow fRange fCache fPend fGoes fOuts fReads 0 fIR fBAsk fX fWrites 0 vIn bb RR L CD is q (hb1) (hb2) (hIn) (hlen) (hoct) (by omega) (hp) (hC)) (cwV 1 hts (my_gV k1260 k1262 ks59 k12 k1263) rfl rfl rfl cu_M_valueOf_1 ⟨by rw [hR]; exact Nat.le_of_ble_eq_true rfl, by rw [hR]; exact Nat.le_of_ble_eq_true rfl⟩) (my_preV hK hN (hP.sub [0, 1] rfl) (hD.sub [0, 1] (by decide +kernel) rfl) 0 rfl rfl) rfl rfl hl.1 rfl (lv_room (Nat.le_of_ble_eq_true rfl)) d_M_getBits_53 ⟨by rw [hR]; exact Nat.le_of_ble_eq_true rfl, by rw [hR]; exact Nat.le_of_ble_eq_true rfl⟩) hP hD hS hA [0, 1] [] rfl rfl (by decide +kernel) (by decide +kernel) (fun r_53 u9 H locs hw_53 hP hD hS => ?_)
          have hw_53 : r_53 = oI (gv1 is bb (RR, L, CD, q)).1 := hw_53
          have hPD : my_PD (dC, dI) vwCl A [(o, Sum.inr (9, mO g 1 fShift fModels fItems fEnded fLow fRange fCache fPend fGoes fOuts (nI is.length) fReads 0 fIR (nI (gv1 is bb (RR, L, CD, q)).2.2.2.2) fBAsk (lN (gv1 is bb (RR, L, CD, q)).2.2.2.1) (lN (gv1 is bb (RR, L, CD, q)).2.2.1) (lN (gv1 is bb (RR, L, CD, q)).2.1) fX fWrites 0)), ((g 8), Sum.inl (cI, 6000, Sum.inl vIn))] H := ⟨hP, hD⟩
          have hP := hPD.1
          have hD := hPD.2
          refine lv_istore_n (lv' := [(2, Value.int r_53), (0, Value.ref o), (1, Value.int (nI bb))]) hx hb d_M_getBits_56 rfl hl (by decide) rfl (fun ls hl => ?_)
          have hr8 : r_53 = -1 := by rw [hw_53, hG]; rfl
          refine lv_iload_n hx hb d_M_getBits_57 rfl (lv_at hl 0 rfl) ?_
          refine lv_if_ge (tgt := 66) hx hb d_M_getBits_58 (by decide) (fun c_5 => ?_) (fun c_5 => ?_)
          · exact absurd c_5 (by rw [hr8]; decide)
          · refine lv_aload_n hx hb d_M_getBits_61 rfl (lv_at hl 1 rfl) ?_
            refine my_ci (wr := [((g 8), Sum.inl (cI, 6000, Sum.inl vIn))]) (va_runV (As := []) (rest := []) ⟨hx, hb, hml, hown, hts⟩ (c_M_spoiled l dC dI cI cM cO H.size o g 1 fShift fModels fItems fEnded fLow fRange fCache fPend fGoes fOuts (nI is.length) fReads 0 fIR (nI (gv1 is bb (RR, L, CD, q)).2.2.2.2) fBAsk (lN (gv1 is bb (RR, L, CD, q)).2.2.2.1) (lN (gv1 is bb (RR, L, CD, q)).2.2.1) (lN (gv1 is bb (RR, L, CD, q)).2.1) fX fWrites 0) (cwV 0 hts (my_gV k1252 k1254 ks58 k12 k1255) rfl rfl rfl cu_M_spoiled_0 ⟨by rw [hR]; exact Nat.le_of_ble_eq_true rfl, by rw [hR]; exact Nat.le_of_ble_eq_true rfl⟩) (my_preV hK hN (hP.sub [0] rfl) (hD.sub [0] (by decide +kernel) rfl) 0 rfl rfl) rfl rfl hl.1 rfl (lv_room (Nat.le_of_ble_eq_true rfl)) d_M_getBits_62 ⟨by rw [hR]; exact Nat.le_of_ble_eq_true rfl, by rw [hR]; exact Nat.le_of_ble_eq_true rfl⟩) hP hD hS hA [0] [1] rfl rfl (by decide +kernel) (by decide +kernel) (fun r_62 u9 H locs hw_62 hP hD hS => ?_)
            have hw_62 : r_62 = -5 := hw_62
            have hPD : my_PD (dC, dI) vwCl A [((g 8), Sum.inl (cI, 6000, Sum.inl vIn)), (o, Sum.inr (9, mO g 1 fShift fModels fItems fEnded fLow fRange fCache fPend fGoes fOuts (nI is.length) fReads 1 fIR (nI (gv1 is bb (RR, L, CD, q)).2.2.2.2) fBAsk (lN (gv1 is bb (RR, L, CD, q)).2.2.2.1) (lN (gv1 is bb (RR, L, CD, q)).2.2.1) (lN (gv1 is bb (RR, L, CD, q)).2.1) fX fWrites 0))] H := ⟨hP, hD⟩
            have hP := hPD.1
            have hD := hPD.2
            exact my_iret (v := r_62) hx hb hr (rfl) hlocks hQ hK hS (Nat.le_refl _) (Nat.le_refl _) () (hw_62) (hP.sub [1, 0] rfl) (hD.sub [1, 0] (by decide +kernel) rfl) d_M_getBits_65
        · exact absurd (by decide) c_4
      · exact absurd c_3 hrd
    · exact absurd (show 1 ≤ nI bb ∧ nI bb ≤ nI 12 from ⟨nI_le (a := 1) hb1 (by omega), nI_le hb2 (by decide)⟩) (one_eq hw_22 c_2)
  · exact absurd c_1 (by decide)
set_option maxHeartbeats 2000000 in
set_option maxRecDepth 100000 in
theorem m_gb2W (l : Launch) (dC : Nat → ClassId) (dI : Nat → Nat → Nat) (cI cM cO : ClassId) (sz : Nat) (o : Nat) (g : Nat → Nat) (fShift : Int32) (fModels : Int32) (fItems : Int32) (fEnded : Int32) (fLow : Int64) (fRange : Int64) (fCache : Int32) (fPend : Int32) (fGoes : Int32) (fOuts : Int32) (fIns : Int32) (fReads : Int32) (fBad : Int32) (fIR : Int32) (fAsk : Int32) (fBAsk : Int32) (fCode : Int64) (fRL : Int64) (fRR : Int64) (fX : Int64) (fWrites : Int32) (fThrown : Int32) (p1 : Int32) (hno : ¬ (1 ≤ p1 ∧ p1 ≤ nI 12)) : MetI l y_M_getBits (Cond.code y_M_getBits prog_14_method_57_code 3 (some .int) :: gw) ({ frames := 1, cells := 0, slots := 0, locals := 22 } : Room) (dC, dI) vwCl (kT cI cM cO) [Value.ref o, Value.int p1] [(o, Sum.inr (9, mO g 2 fShift fModels fItems fEnded fLow fRange fCache fPend fGoes fOuts fIns fReads fBad fIR fAsk fBAsk fCode fRL fRR fX fWrites fThrown))] sz (fun (r : Int32) (u : Unit) => r = -2) (fun (u : Unit) => [(o, Sum.inr (9, mO g 2 fShift fModels fItems fEnded fLow fRange fCache fPend fGoes fOuts fIns fReads fBad fIR fAsk fBAsk fCode fRL fRR fX fWrites 0))]) 0 0 := by
  refine my_ofI (cc := prog_14_method_57_code) (n := 3) (ret := (some .int)) (by decide) rfl (Nat.le_of_ble_eq_true rfl) ?_
  intro p e s m args below meth c R Q A ls H locs hx hb hr hts hown hlocks hml hnm hR hQ hA hl hP hK hN hD hS
  have hg : ∀ w ∈ gw, w.before args s = true := fun w h => hts w (List.mem_cons_of_mem _ h)
  have hown : s.vm.findClass "RangeCodersModel" = some m.cls := hown
  have hl : lv_has ls 3 [(0, Value.ref o), (1, Value.int p1)] := hl
  refine lv_aload_n hx hb d_M_getBits_0 rfl (lv_at hl 0 rfl) ?_
  refine lv_iconst (v := 0) hx hb d_M_getBits_1 (by decide) ?_
  refine va_put (D := (dC, dI)) (ci := 9) (v := .int 0) (ty := .int) (C := "RangeCodersModel") (T := T_M) (N := 35) hx hb hg in_M t_M o_M n_M hown hK hP hD hS 0 rfl rfl 34 (by decide) (hg _ k986) (fun _ h9 => h9) rfl (o_M 34 (by decide)) rfl rfl (Nat.le_of_ble_eq_true rfl) d_M_getBits_2 (fun H locs hP hD hS => ?_)
  have hPD : my_PD (dC, dI) vwCl A [(o, Sum.inr (9, mO g 2 fShift fModels fItems fEnded fLow fRange fCache fPend fGoes fOuts fIns fReads fBad fIR fAsk fBAsk fCode fRL fRR fX fWrites 0))] H := ⟨hP, hD⟩
  have hP := hPD.1
  have hD := hPD.2
  refine lv_iload_n hx hb d_M_getBits_5 rfl (lv_at hl 1 rfl) ?_
  refine lv_iconst (v := 1) hx hb d_M_getBits_6 (by decide) ?_
  refine lv_aload_n hx hb d_M_getBits_7 rfl (lv_at hl 0 rfl) ?_
  refine va_get (D := (dC, dI)) (ci := 9) (v := .int 2) (C := "RangeCodersModel") (T := T_M) (N := 35) hx hb hg in_M hown hK hP 0 rfl rfl 0 (by decide) (hg _ k952) (fun _ h9 => h9) rfl d_M_getBits_8 ?_
  refine lv_iconst (v := 4) hx hb d_M_getBits_11 (by decide) ?_
  refine lv_icmp_ne (tgt := 20) hx hb d_M_getBits_12 (by decide) (fun c_1 => ?_) (fun c_1 => ?_)
  · refine lv_bipush (v := 12) hx hb d_M_getBits_20 (by decide) ?_
    refine my_ci (wr := [(o, Sum.inr (9, mO g 2 fShift fModels fItems fEnded fLow fRange fCache fPend fGoes fOuts fIns fReads fBad fIR fAsk fBAsk fCode fRL fRR fX fWrites 0))]) (va_runS (As := [Value.int p1, Value.int 1, Value.int 12]) (rest := []) ⟨hx, hb, hml, hown, hts⟩ (c_M_in l dC dI cI cM cO H.size p1 1 12) (cwS 3 hts (my_gS k1062 k1063 k12 k1064) rfl rfl rfl (by decide +kernel) ⟨by rw [hR]; exact Nat.le_of_ble_eq_true rfl, by rw [hR]; exact Nat.le_of_ble_eq_true rfl⟩) (my_pre hK hN (hP.sub [] rfl) (hD.sub [] (by decide +kernel) rfl)) rfl rfl hl.1 rfl (lv_room (Nat.le_of_ble_eq_true rfl)) d_M_getBits_22 ⟨by rw [hR]; exact Nat.le_of_ble_eq_true rfl, by rw [hR]; exact Nat.le_of_ble_eq_true rfl⟩) hP hD hS hA [] [0] rfl rfl (by decide +kernel) (by decide +kernel) (fun r_22 u9 H locs hw_22 hP hD hS => ?_)
    have hw_22 : r_22 = if 1 ≤ p1 ∧ p1 ≤ 12 then 1 else 0 := hw_22
    have hPD : my_PD (dC, dI) vwCl A [(o, Sum.inr (9, mO g 2 fShift fModels fItems fEnded fLow fRange fCache fPend fGoes fOuts fIns fReads fBad fIR fAsk fBAsk fCode fRL fRR fX fWrites 0))] H := ⟨hP, hD⟩
    have hP := hPD.1
    have hD := hPD.2
    refine lv_if_ne (tgt := 31) hx hb d_M_getBits_25 (by decide) (fun c_2 => ?_) (fun c_2 => ?_)
    · exact absurd (one_ne hw_22 c_2) hno
    · refine lv_bipush (v := (-2)) hx hb d_M_getBits_28 (by decide) ?_
      exact my_iret (v := (-2)) hx hb hr (rfl) hlocks hQ hK hS (Nat.le_refl _) (Nat.le_refl _) () (rfl) (hP.sub [0] rfl) (hD.sub [0] (by decide +kernel) rfl) d_M_getBits_30
  · exact absurd c_1 (by decide)
set_option maxHeartbeats 2000000 in
set_option maxRecDepth 100000 in
theorem m_gb2N (l : Launch) (dC : Nat → ClassId) (dI : Nat → Nat → Nat) (cI cM cO : ClassId) (sz : Nat) (o : Nat) (g : Nat → Nat) (fShift : Int32) (fModels : Int32) (fItems : Int32) (fEnded : Int32) (fLow : Int64) (fRange : Int64) (fCache : Int32) (fPend : Int32) (fGoes : Int32) (fOuts : Int32) (fIns : Int32) (fReads : Int32) (fBad : Int32) (fIR : Int32) (fAsk : Int32) (fBAsk : Int32) (fCode : Int64) (fRL : Int64) (fRR : Int64) (fX : Int64) (fWrites : Int32) (fThrown : Int32) (bb : Nat) (hb1 : 1 ≤ bb) (hb2 : bb ≤ 12) (hrd : fReads = 0) : MetI l y_M_getBits (Cond.code y_M_getBits prog_14_method_57_code 3 (some .int) :: gw) ({ frames := 1, cells := 0, slots := 0, locals := 22 } : Room) (dC, dI) vwCl (kT cI cM cO) [Value.ref o, Value.int (nI bb)] [(o, Sum.inr (9, mO g 2 fShift fModels fItems fEnded fLow fRange fCache fPend fGoes fOuts fIns fReads fBad fIR fAsk fBAsk fCode fRL fRR fX fWrites fThrown))] sz (fun (r : Int32) (u : Unit) => r = -3) (fun (u : Unit) => [(o, Sum.inr (9, mO g 2 fShift fModels fItems fEnded fLow fRange fCache fPend fGoes fOuts fIns fReads fBad fIR fAsk fBAsk fCode fRL fRR fX fWrites 0))]) 0 0 := by
  refine my_ofI (cc := prog_14_method_57_code) (n := 3) (ret := (some .int)) (by decide) rfl (Nat.le_of_ble_eq_true rfl) ?_
  intro p e s m args below meth c R Q A ls H locs hx hb hr hts hown hlocks hml hnm hR hQ hA hl hP hK hN hD hS
  have hg : ∀ w ∈ gw, w.before args s = true := fun w h => hts w (List.mem_cons_of_mem _ h)
  have hown : s.vm.findClass "RangeCodersModel" = some m.cls := hown
  have hl : lv_has ls 3 [(0, Value.ref o), (1, Value.int (nI bb))] := hl
  refine lv_aload_n hx hb d_M_getBits_0 rfl (lv_at hl 0 rfl) ?_
  refine lv_iconst (v := 0) hx hb d_M_getBits_1 (by decide) ?_
  refine va_put (D := (dC, dI)) (ci := 9) (v := .int 0) (ty := .int) (C := "RangeCodersModel") (T := T_M) (N := 35) hx hb hg in_M t_M o_M n_M hown hK hP hD hS 0 rfl rfl 34 (by decide) (hg _ k986) (fun _ h9 => h9) rfl (o_M 34 (by decide)) rfl rfl (Nat.le_of_ble_eq_true rfl) d_M_getBits_2 (fun H locs hP hD hS => ?_)
  have hPD : my_PD (dC, dI) vwCl A [(o, Sum.inr (9, mO g 2 fShift fModels fItems fEnded fLow fRange fCache fPend fGoes fOuts fIns fReads fBad fIR fAsk fBAsk fCode fRL fRR fX fWrites 0))] H := ⟨hP, hD⟩
  have hP := hPD.1
  have hD := hPD.2
  refine lv_iload_n hx hb d_M_getBits_5 rfl (lv_at hl 1 rfl) ?_
  refine lv_iconst (v := 1) hx hb d_M_getBits_6 (by decide) ?_
  refine lv_aload_n hx hb d_M_getBits_7 rfl (lv_at hl 0 rfl) ?_
  refine va_get (D := (dC, dI)) (ci := 9) (v := .int 2) (C := "RangeCodersModel") (T := T_M) (N := 35) hx hb hg in_M hown hK hP 0 rfl rfl 0 (by decide) (hg _ k952) (fun _ h9 => h9) rfl d_M_getBits_8 ?_
  refine lv_iconst (v := 4) hx hb d_M_getBits_11 (by decide) ?_
  refine lv_icmp_ne (tgt := 20) hx hb d_M_getBits_12 (by decide) (fun c_1 => ?_) (fun c_1 => ?_)
  · refine lv_bipush (v := 12) hx hb d_M_getBits_20 (by decide) ?_
    refine my_ci (wr := [(o, Sum.inr (9, mO g 2 fShift fModels fItems fEnded fLow fRange fCache fPend fGoes fOuts fIns fReads fBad fIR fAsk fBAsk fCode fRL fRR fX fWrites 0))]) (va_runS (As := [Value.int (nI bb), Value.int 1, Value.int 12]) (rest := []) ⟨hx, hb, hml, hown, hts⟩ (c_M_in l dC dI cI cM cO H.size (nI bb) 1 12) (cwS 3 hts (my_gS k1062 k1063 k12 k1064) rfl rfl rfl (by decide +kernel) ⟨by rw [hR]; exact Nat.le_of_ble_eq_true rfl, by rw [hR]; exact Nat.le_of_ble_eq_true rfl⟩) (my_pre hK hN (hP.sub [] rfl) (hD.sub [] (by decide +kernel) rfl)) rfl rfl hl.1 rfl (lv_room (Nat.le_of_ble_eq_true rfl)) d_M_getBits_22 ⟨by rw [hR]; exact Nat.le_of_ble_eq_true rfl, by rw [hR]; exact Nat.le_of_ble_eq_true rfl⟩) hP hD hS hA [] [0] rfl rfl (by decide +kernel) (by decide +kernel) (fun r_22 u9 H locs hw_22 hP hD hS => ?_)
    have hw_22 : r_22 = if 1 ≤ (nI bb) ∧ (nI bb) ≤ 12 then 1 else 0 := hw_22
    have hPD : my_PD (dC, dI) vwCl A [(o, Sum.inr (9, mO g 2 fShift fModels fItems fEnded fLow fRange fCache fPend fGoes fOuts fIns fReads fBad fIR fAsk fBAsk fCode fRL fRR fX fWrites 0))] H := ⟨hP, hD⟩
    have hP := hPD.1
    have hD := hPD.2
    refine lv_if_ne (tgt := 31) hx hb d_M_getBits_25 (by decide) (fun c_2 => ?_) (fun c_2 => ?_)
    · refine lv_aload_n hx hb d_M_getBits_31 rfl (lv_at hl 0 rfl) ?_
      refine va_get (D := (dC, dI)) (ci := 9) (v := .int fReads) (C := "RangeCodersModel") (T := T_M) (N := 35) hx hb hg in_M hown hK hP 0 rfl rfl 21 (by decide) (hg _ k973) (fun _ h9 => h9) rfl d_M_getBits_32 ?_
      refine lv_if_ne (tgt := 41) hx hb d_M_getBits_35 (by decide) (fun c_3 => ?_) (fun c_3 => ?_)
      · exact absurd hrd c_3
      · refine lv_bipush (v := (-3)) hx hb d_M_getBits_38 (by decide) ?_
        exact my_iret (v := (-3)) hx hb hr (rfl) hlocks hQ hK hS (Nat.le_refl _) (Nat.le_refl _) () (rfl) (hP.sub [0] rfl) (hD.sub [0] (by decide +kernel) rfl) d_M_getBits_40
    · exact absurd (show 1 ≤ nI bb ∧ nI bb ≤ nI 12 from ⟨nI_le (a := 1) hb1 (by omega), nI_le hb2 (by decide)⟩) (one_eq hw_22 c_2)
  · exact absurd c_1 (by decide)
set_option maxHeartbeats 2000000 in
set_option maxRecDepth 100000 in
theorem m_gb2B (l : Launch) (dC : Nat → ClassId) (dI : Nat → Nat → Nat) (cI cM cO : ClassId) (sz : Nat) (o : Nat) (g : Nat → Nat) (fShift : Int32) (fModels : Int32) (fItems : Int32) (fEnded : Int32) (fLow : Int64) (fRange : Int64) (fCache : Int32) (fPend : Int32) (fGoes : Int32) (fOuts : Int32) (fIns : Int32) (fReads : Int32) (fBad : Int32) (fIR : Int32) (fAsk : Int32) (fBAsk : Int32) (fCode : Int64) (fRL : Int64) (fRR : Int64) (fX : Int64) (fWrites : Int32) (fThrown : Int32) (bb : Nat) (hb1 : 1 ≤ bb) (hb2 : bb ≤ 12) (hrd : ¬ fReads = 0) (hbd : ¬ fBad = 0) : MetI l y_M_getBits (Cond.code y_M_getBits prog_14_method_57_code 3 (some .int) :: gw) ({ frames := 1, cells := 0, slots := 0, locals := 22 } : Room) (dC, dI) vwCl (kT cI cM cO) [Value.ref o, Value.int (nI bb)] [(o, Sum.inr (9, mO g 2 fShift fModels fItems fEnded fLow fRange fCache fPend fGoes fOuts fIns fReads fBad fIR fAsk fBAsk fCode fRL fRR fX fWrites fThrown))] sz (fun (r : Int32) (u : Unit) => r = -5) (fun (u : Unit) => [(o, Sum.inr (9, mO g 2 fShift fModels fItems fEnded fLow fRange fCache fPend fGoes fOuts fIns fReads fBad fIR fAsk fBAsk fCode fRL fRR fX fWrites 0))]) 0 0 := by
  refine my_ofI (cc := prog_14_method_57_code) (n := 3) (ret := (some .int)) (by decide) rfl (Nat.le_of_ble_eq_true rfl) ?_
  intro p e s m args below meth c R Q A ls H locs hx hb hr hts hown hlocks hml hnm hR hQ hA hl hP hK hN hD hS
  have hg : ∀ w ∈ gw, w.before args s = true := fun w h => hts w (List.mem_cons_of_mem _ h)
  have hown : s.vm.findClass "RangeCodersModel" = some m.cls := hown
  have hl : lv_has ls 3 [(0, Value.ref o), (1, Value.int (nI bb))] := hl
  refine lv_aload_n hx hb d_M_getBits_0 rfl (lv_at hl 0 rfl) ?_
  refine lv_iconst (v := 0) hx hb d_M_getBits_1 (by decide) ?_
  refine va_put (D := (dC, dI)) (ci := 9) (v := .int 0) (ty := .int) (C := "RangeCodersModel") (T := T_M) (N := 35) hx hb hg in_M t_M o_M n_M hown hK hP hD hS 0 rfl rfl 34 (by decide) (hg _ k986) (fun _ h9 => h9) rfl (o_M 34 (by decide)) rfl rfl (Nat.le_of_ble_eq_true rfl) d_M_getBits_2 (fun H locs hP hD hS => ?_)
  have hPD : my_PD (dC, dI) vwCl A [(o, Sum.inr (9, mO g 2 fShift fModels fItems fEnded fLow fRange fCache fPend fGoes fOuts fIns fReads fBad fIR fAsk fBAsk fCode fRL fRR fX fWrites 0))] H := ⟨hP, hD⟩
  have hP := hPD.1
  have hD := hPD.2
  refine lv_iload_n hx hb d_M_getBits_5 rfl (lv_at hl 1 rfl) ?_
  refine lv_iconst (v := 1) hx hb d_M_getBits_6 (by decide) ?_
  refine lv_aload_n hx hb d_M_getBits_7 rfl (lv_at hl 0 rfl) ?_
  refine va_get (D := (dC, dI)) (ci := 9) (v := .int 2) (C := "RangeCodersModel") (T := T_M) (N := 35) hx hb hg in_M hown hK hP 0 rfl rfl 0 (by decide) (hg _ k952) (fun _ h9 => h9) rfl d_M_getBits_8 ?_
  refine lv_iconst (v := 4) hx hb d_M_getBits_11 (by decide) ?_
  refine lv_icmp_ne (tgt := 20) hx hb d_M_getBits_12 (by decide) (fun c_1 => ?_) (fun c_1 => ?_)
  · refine lv_bipush (v := 12) hx hb d_M_getBits_20 (by decide) ?_
    refine my_ci (wr := [(o, Sum.inr (9, mO g 2 fShift fModels fItems fEnded fLow fRange fCache fPend fGoes fOuts fIns fReads fBad fIR fAsk fBAsk fCode fRL fRR fX fWrites 0))]) (va_runS (As := [Value.int (nI bb), Value.int 1, Value.int 12]) (rest := []) ⟨hx, hb, hml, hown, hts⟩ (c_M_in l dC dI cI cM cO H.size (nI bb) 1 12) (cwS 3 hts (my_gS k1062 k1063 k12 k1064) rfl rfl rfl (by decide +kernel) ⟨by rw [hR]; exact Nat.le_of_ble_eq_true rfl, by rw [hR]; exact Nat.le_of_ble_eq_true rfl⟩) (my_pre hK hN (hP.sub [] rfl) (hD.sub [] (by decide +kernel) rfl)) rfl rfl hl.1 rfl (lv_room (Nat.le_of_ble_eq_true rfl)) d_M_getBits_22 ⟨by rw [hR]; exact Nat.le_of_ble_eq_true rfl, by rw [hR]; exact Nat.le_of_ble_eq_true rfl⟩) hP hD hS hA [] [0] rfl rfl (by decide +kernel) (by decide +kernel) (fun r_22 u9 H locs hw_22 hP hD hS => ?_)
    have hw_22 : r_22 = if 1 ≤ (nI bb) ∧ (nI bb) ≤ 12 then 1 else 0 := hw_22
    have hPD : my_PD (dC, dI) vwCl A [(o, Sum.inr (9, mO g 2 fShift fModels fItems fEnded fLow fRange fCache fPend fGoes fOuts fIns fReads fBad fIR fAsk fBAsk fCode fRL fRR fX fWrites 0))] H := ⟨hP, hD⟩
    have hP := hPD.1
    have hD := hPD.2
    refine lv_if_ne (tgt := 31) hx hb d_M_getBits_25 (by decide) (fun c_2 => ?_) (fun c_2 => ?_)
    · refine lv_aload_n hx hb d_M_getBits_31 rfl (lv_at hl 0 rfl) ?_
      refine va_get (D := (dC, dI)) (ci := 9) (v := .int fReads) (C := "RangeCodersModel") (T := T_M) (N := 35) hx hb hg in_M hown hK hP 0 rfl rfl 21 (by decide) (hg _ k973) (fun _ h9 => h9) rfl d_M_getBits_32 ?_
      refine lv_if_ne (tgt := 41) hx hb d_M_getBits_35 (by decide) (fun c_3 => ?_) (fun c_3 => ?_)
      · refine lv_aload_n hx hb d_M_getBits_41 rfl (lv_at hl 0 rfl) ?_
        refine va_get (D := (dC, dI)) (ci := 9) (v := .int fBad) (C := "RangeCodersModel") (T := T_M) (N := 35) hx hb hg in_M hown hK hP 0 rfl rfl 22 (by decide) (hg _ k974) (fun _ h9 => h9) rfl d_M_getBits_42 ?_
        refine lv_if_eq (tgt := 51) hx hb d_M_getBits_45 (by decide) (fun c_4 => ?_) (fun c_4 => ?_)
        · exact absurd c_4 hbd
        · refine lv_bipush (v := (-5)) hx hb d_M_getBits_48 (by decide) ?_
          exact my_iret (v := (-5)) hx hb hr (rfl) hlocks hQ hK hS (Nat.le_refl _) (Nat.le_refl _) () (rfl) (hP.sub [0] rfl) (hD.sub [0] (by decide +kernel) rfl) d_M_getBits_50
      · exact absurd c_3 hrd
    · exact absurd (show 1 ≤ nI bb ∧ nI bb ≤ nI 12 from ⟨nI_le (a := 1) hb1 (by omega), nI_le hb2 (by decide)⟩) (one_eq hw_22 c_2)
  · exact absurd c_1 (by decide)
set_option maxHeartbeats 2000000 in
set_option maxRecDepth 100000 in
theorem m_gb2L (l : Launch) (dC : Nat → ClassId) (dI : Nat → Nat → Nat) (cI cM cO : ClassId) (sz : Nat) (o : Nat) (g : Nat → Nat) (fShift : Int32) (fModels : Int32) (fItems : Int32) (fEnded : Int32) (fLow : Int64) (fRange : Int64) (fCache : Int32) (fPend : Int32) (fGoes : Int32) (fOuts : Int32) (fReads : Int32) (fIR : Int32) (fBAsk : Int32) (fRL : Int64) (fX : Int64) (fWrites : Int32) (fThrown : Int32) (vIn : Nat → Int32) (bb : Nat) (RR : Nat) (CD : Nat) (is : List Nat) (q : Nat) (s9 : Nat) (hb1 : 1 ≤ bb) (hb2 : bb ≤ 12) (hrd : ¬ fReads = 0) (hI : rInv (RR, CD, q)) (hIn : gIs vIn is) (hlen : is.length ≤ 6000) (hoct : oct is) (hq : q < 700000) (hG : (pbS is bb (RR, CD, q)).1 = some s9) (hs9 : s9 < 2147483648) : MetI l y_M_getBits (Cond.code y_M_getBits prog_14_method_57_code 3 (some .int) :: gw) ({ frames := 4, cells := 0, slots := 0, locals := 89 } : Room) (dC, dI) vwCl (kT cI cM cO) [Value.ref o, Value.int (nI bb)] [(o, Sum.inr (9, mO g 2 fShift fModels fItems fEnded fLow fRange fCache fPend fGoes fOuts (nI is.length) fReads 0 fIR (nI q) fBAsk (lN CD) fRL (lN RR) fX fWrites fThrown)), ((g 8), Sum.inl (cI, 6000, Sum.inl vIn))] sz (fun (r : Int32) (u : Int32) => r = nI s9) (fun (u : Int32) => [(o, Sum.inr (9, mO g 2 fShift fModels fItems fEnded fLow fRange fCache fPend fGoes fOuts (nI is.length) fReads 0 u (nI (pbS is bb (RR, CD, q)).2.2.2) fBAsk (lN (pbS is bb (RR, CD, q)).2.2.1) fRL (lN (pbS is bb (RR, CD, q)).2.1) fX fWrites 0)), ((g 8), Sum.inl (cI, 6000, Sum.inl vIn))]) 0 0 := by
  refine my_ofI (cc := prog_14_method_57_code) (n := 3) (ret := (some .int)) (by decide) rfl (Nat.le_of_ble_eq_true rfl) ?_
  intro p e s m args below meth c R Q A ls H locs hx hb hr hts hown hlocks hml hnm hR hQ hA hl hP hK hN hD hS
  have hg : ∀ w ∈ gw, w.before args s = true := fun w h => hts w (List.mem_cons_of_mem _ h)
  have hown : s.vm.findClass "RangeCodersModel" = some m.cls := hown
  have hl : lv_has ls 3 [(0, Value.ref o), (1, Value.int (nI bb))] := hl
  refine lv_aload_n hx hb d_M_getBits_0 rfl (lv_at hl 0 rfl) ?_
  refine lv_iconst (v := 0) hx hb d_M_getBits_1 (by decide) ?_
  refine va_put (D := (dC, dI)) (ci := 9) (v := .int 0) (ty := .int) (C := "RangeCodersModel") (T := T_M) (N := 35) hx hb hg in_M t_M o_M n_M hown hK hP hD hS 0 rfl rfl 34 (by decide) (hg _ k986) (fun _ h9 => h9) rfl (o_M 34 (by decide)) rfl rfl (Nat.le_of_ble_eq_true rfl) d_M_getBits_2 (fun H locs hP hD hS => ?_)
  have hPD : my_PD (dC, dI) vwCl A [(o, Sum.inr (9, mO g 2 fShift fModels fItems fEnded fLow fRange fCache fPend fGoes fOuts (nI is.length) fReads 0 fIR (nI q) fBAsk (lN CD) fRL (lN RR) fX fWrites 0)), ((g 8), Sum.inl (cI, 6000, Sum.inl vIn))] H := ⟨hP, hD⟩
  have hP := hPD.1
  have hD := hPD.2
  refine lv_iload_n hx hb d_M_getBits_5 rfl (lv_at hl 1 rfl) ?_
  refine lv_iconst (v := 1) hx hb d_M_getBits_6 (by decide) ?_
  refine lv_aload_n hx hb d_M_getBits_7 rfl (lv_at hl 0 rfl) ?_
  refine va_get (D := (dC, dI)) (ci := 9) (v := .int 2) (C := "RangeCodersModel") (T := T_M) (N := 35) hx hb hg in_M hown hK hP 0 rfl rfl 0 (by decide) (hg _ k952) (fun _ h9 => h9) rfl d_M_getBits_8 ?_
  refine lv_iconst (v := 4) hx hb d_M_getBits_11 (by decide) ?_
  refine lv_icmp_ne (tgt := 20) hx hb d_M_getBits_12 (by decide) (fun c_1 => ?_) (fun c_1 => ?_)
  · refine lv_bipush (v := 12) hx hb d_M_getBits_20 (by decide) ?_
    refine my_ci (wr := [(o, Sum.inr (9, mO g 2 fShift fModels fItems fEnded fLow fRange fCache fPend fGoes fOuts (nI is.length) fReads 0 fIR (nI q) fBAsk (lN CD) fRL (lN RR) fX fWrites 0)), ((g 8), Sum.inl (cI, 6000, Sum.inl vIn))]) (va_runS (As := [Value.int (nI bb), Value.int 1, Value.int 12]) (rest := []) ⟨hx, hb, hml, hown, hts⟩ (c_M_in l dC dI cI cM cO H.size (nI bb) 1 12) (cwS 3 hts (my_gS k1062 k1063 k12 k1064) rfl rfl rfl (by decide +kernel) ⟨by rw [hR]; exact Nat.le_of_ble_eq_true rfl, by rw [hR]; exact Nat.le_of_ble_eq_true rfl⟩) (my_pre hK hN (hP.sub [] rfl) (hD.sub [] (by decide +kernel) rfl)) rfl rfl hl.1 rfl (lv_room (Nat.le_of_ble_eq_true rfl)) d_M_getBits_22 ⟨by rw [hR]; exact Nat.le_of_ble_eq_true rfl, by rw [hR]; exact Nat.le_of_ble_eq_true rfl⟩) hP hD hS hA [] [0, 1] rfl rfl (by decide +kernel) (by decide +kernel) (fun r_22 u9 H locs hw_22 hP hD hS => ?_)
    have hw_22 : r_22 = if 1 ≤ (nI bb) ∧ (nI bb) ≤ 12 then 1 else 0 := hw_22
    have hPD : my_PD (dC, dI) vwCl A [(o, Sum.inr (9, mO g 2 fShift fModels fItems fEnded fLow fRange fCache fPend fGoes fOuts (nI is.length) fReads 0 fIR (nI q) fBAsk (lN CD) fRL (lN RR) fX fWrites 0)), ((g 8), Sum.inl (cI, 6000, Sum.inl vIn))] H := ⟨hP, hD⟩
    have hP := hPD.1
    have hD := hPD.2
    refine lv_if_ne (tgt := 31) hx hb d_M_getBits_25 (by decide) (fun c_2 => ?_) (fun c_2 => ?_)
    · refine lv_aload_n hx hb d_M_getBits_31 rfl (lv_at hl 0 rfl) ?_
      refine va_get (D := (dC, dI)) (ci := 9) (v := .int fReads) (C := "RangeCodersModel") (T := T_M) (N := 35) hx hb hg in_M hown hK hP 0 rfl rfl 21 (by decide) (hg _ k973) (fun _ h9 => h9) rfl d_M_getBits_32 ?_
      refine lv_if_ne (tgt := 41) hx hb d_M_getBits_35 (by decide) (fun c_3 => ?_) (fun c_3 => ?_)
      · refine lv_aload_n hx hb d_M_getBits_41 rfl (lv_at hl 0 rfl) ?_
        refine va_get (D := (dC, dI)) (ci := 9) (v := .int 0) (C := "RangeCodersModel") (T := T_M) (N := 35) hx hb hg in_M hown hK hP 0 rfl rfl 22 (by decide) (hg _ k974) (fun _ h9 => h9) rfl d_M_getBits_42 ?_
        refine lv_if_eq (tgt := 51) hx hb d_M_getBits_45 (by decide) (fun c_4 => ?_) (fun c_4 => ?_)
        · refine lv_aload_n hx hb d_M_getBits_51 rfl (lv_at hl 0 rfl) ?_
          refine lv_iload_n hx hb d_M_getBits_52 rfl (lv_at hl 1 rfl) ?_
          refine my_ci (wr := []) (va_runV (As := [Value.int (nI bb)]) (rest := []) ⟨hx, hb, hml, hown, hts⟩ (c_M_valueOf2 l dC dI cI cM cO H.size o g fShift fModels fItems fEnded fLow fRange fCache fPend fGoes fOuts fReads 0 fIR fBAsk fRL fX fWrites 0 vIn bb RR CD is q (hIn) (hlen) (hoct) (by omega) (hb2) (hI)) (cwV 1 hts (my_gV k1260 k1262 ks59 k12 k1263) rfl rfl rfl cu_M_valueOf_1 ⟨by rw [hR]; exact Nat.le_of_ble_eq_true rfl, by rw [hR]; exact Nat.le_of_ble_eq_true rfl⟩) (my_preV hK hN (hP.sub [0, 1] rfl) (hD.sub [0, 1] (by decide +kernel) rfl) 0 rfl rfl) rfl rfl hl.1 rfl (lv_room (Nat.le_of_ble_eq_true rfl)) d_M_getBits_53 ⟨by rw [hR]; exact Nat.le_of_ble_eq_true rfl, by rw [hR]; exact Nat.le_of_ble_eq_true rfl⟩) hP hD hS hA [0, 1] [] rfl rfl (by decide +kernel) (by decide +kernel) (fun r_53 u9 H locs hw_53 hP hD hS => ?_)
          have hw_53 : r_53 = oI (pbS is bb (RR, CD, q)).1 := hw_53
          have hPD : my_PD (dC, dI) vwCl A [(o, Sum.inr (9, mO g 2 fShift fModels fItems fEnded fLow fRange fCache fPend fGoes fOuts (nI is.length) fReads 0 fIR (nI (pbS is bb (RR, CD, q)).2.2.2) fBAsk (lN (pbS is bb (RR, CD, q)).2.2.1) fRL (lN (pbS is bb (RR, CD, q)).2.1) fX fWrites 0)), ((g 8), Sum.inl (cI, 6000, Sum.inl vIn))] H := ⟨hP, hD⟩
          have hP := hPD.1
          have hD := hPD.2
          refine lv_istore_n (lv' := [(2, Value.int r_53), (0, Value.ref o), (1, Value.int (nI bb))]) hx hb d_M_getBits_56 rfl hl (by decide) rfl (fun ls hl => ?_)
          have hr8 : r_53 = nI s9 := by rw [hw_53, hG]; rfl
          refine lv_iload_n hx hb d_M_getBits_57 rfl (lv_at hl 0 rfl) ?_
          refine lv_if_ge (tgt := 66) hx hb d_M_getBits_58 (by decide) (fun c_5 => ?_) (fun c_5 => ?_)
          · refine lv_aload_n hx hb d_M_getBits_66 rfl (lv_at hl 1 rfl) ?_
            refine lv_dup hx hb d_M_getBits_67 rfl ?_
            refine va_get (D := (dC, dI)) (ci := 9) (v := .int fIR) (C := "RangeCodersModel") (T := T_M) (N := 35) hx hb hg in_M hown hK hP 0 rfl rfl 23 (by decide) (hg _ k975) (fun _ h9 => h9) rfl d_M_getBits_68 ?_
            refine lv_iconst (v := 1) hx hb d_M_getBits_71 (by decide) ?_
            refine lv_iadd hx hb d_M_getBits_72 ?_
            refine lv_topi (fun v_6 ev_6 => ?_)
            refine va_put (D := (dC, dI)) (ci := 9) (v := .int v_6) (ty := .int) (C := "RangeCodersModel") (T := T_M) (N := 35) hx hb hg in_M t_M o_M n_M hown hK hP hD hS 0 rfl rfl 23 (by decide) (hg _ k975) (fun _ h9 => h9) rfl (o_M 23 (by decide)) rfl rfl (Nat.le_of_ble_eq_true rfl) d_M_getBits_73 (fun H locs hP hD hS => ?_)
            have hPD : my_PD (dC, dI) vwCl A [(o, Sum.inr (9, mO g 2 fShift fModels fItems fEnded fLow fRange fCache fPend fGoes fOuts (nI is.length) fReads 0 v_6 (nI (pbS is bb (RR, CD, q)).2.2.2) fBAsk (lN (pbS is bb (RR, CD, q)).2.2.1) fRL (lN (pbS is bb (RR, CD, q)).2.1) fX fWrites 0)), ((g 8), Sum.inl (cI, 6000, Sum.inl vIn))] H := ⟨hP, hD⟩
            have hP := hPD.1
            have hD := hPD.2
            refine lv_iload_n hx hb d_M_getBits_76 rfl (lv_at hl 0 rfl) ?_
            exact my_iret (v := r_53) hx hb hr (rfl) hlocks hQ hK hS (Nat.le_refl _) (Nat.le_refl _) (v_6) (hr8) (hP.sub [0, 1] rfl) (hD.sub [0, 1] (by decide +kernel) rfl) d_M_getBits_77
          · exact absurd (by rw [hr8]; exact nI_pos' hs9) c_5
        · exact absurd (by decide) c_4
      · exact absurd c_3 hrd
    · exact absurd (show 1 ≤ nI bb ∧ nI bb ≤ nI 12 from ⟨nI_le (a := 1) hb1 (by omega), nI_le hb2 (by decide)⟩) (one_eq hw_22 c_2)
  · exact absurd c_1 (by decide)
set_option maxHeartbeats 2000000 in
set_option maxRecDepth 100000 in
theorem m_gb2X (l : Launch) (dC : Nat → ClassId) (dI : Nat → Nat → Nat) (cI cM cO : ClassId) (sz : Nat) (o : Nat) (g : Nat → Nat) (fShift : Int32) (fModels : Int32) (fItems : Int32) (fEnded : Int32) (fLow : Int64) (fRange : Int64) (fCache : Int32) (fPend : Int32) (fGoes : Int32) (fOuts : Int32) (fReads : Int32) (fIR : Int32) (fBAsk : Int32) (fRL : Int64) (fX : Int64) (fWrites : Int32) (fThrown : Int32) (vIn : Nat → Int32) (bb : Nat) (RR : Nat) (CD : Nat) (is : List Nat) (q : Nat) (hb1 : 1 ≤ bb) (hb2 : bb ≤ 12) (hrd : ¬ fReads = 0) (hI : rInv (RR, CD, q)) (hIn : gIs vIn is) (hlen : is.length ≤ 6000) (hoct : oct is) (hq : q < 700000) (hG : (pbS is bb (RR, CD, q)).1 = none) : MetI l y_M_getBits (Cond.code y_M_getBits prog_14_method_57_code 3 (some .int) :: gw) ({ frames := 4, cells := 0, slots := 0, locals := 89 } : Room) (dC, dI) vwCl (kT cI cM cO) [Value.ref o, Value.int (nI bb)] [(o, Sum.inr (9, mO g 2 fShift fModels fItems fEnded fLow fRange fCache fPend fGoes fOuts (nI is.length) fReads 0 fIR (nI q) fBAsk (lN CD) fRL (lN RR) fX fWrites fThrown)), ((g 8), Sum.inl (cI, 6000, Sum.inl vIn))] sz (fun (r : Int32) (u : Unit) => r = -5) (fun (u : Unit) => [(o, Sum.inr (9, mO g 2 fShift fModels fItems fEnded fLow fRange fCache fPend fGoes fOuts (nI is.length) fReads 1 fIR (nI (pbS is bb (RR, CD, q)).2.2.2) fBAsk (lN (pbS is bb (RR, CD, q)).2.2.1) fRL (lN (pbS is bb (RR, CD, q)).2.1) fX fWrites 0)), ((g 8), Sum.inl (cI, 6000, Sum.inl vIn))]) 0 0 := by
  refine my_ofI (cc := prog_14_method_57_code) (n := 3) (ret := (some .int)) (by decide) rfl (Nat.le_of_ble_eq_true rfl) ?_
  intro p e s m args below meth c R Q A ls H locs hx hb hr hts hown hlocks hml hnm hR hQ hA hl hP hK hN hD hS
  have hg : ∀ w ∈ gw, w.before args s = true := fun w h => hts w (List.mem_cons_of_mem _ h)
  have hown : s.vm.findClass "RangeCodersModel" = some m.cls := hown
  have hl : lv_has ls 3 [(0, Value.ref o), (1, Value.int (nI bb))] := hl
  refine lv_aload_n hx hb d_M_getBits_0 rfl (lv_at hl 0 rfl) ?_
  refine lv_iconst (v := 0) hx hb d_M_getBits_1 (by decide) ?_
  refine va_put (D := (dC, dI)) (ci := 9) (v := .int 0) (ty := .int) (C := "RangeCodersModel") (T := T_M) (N := 35) hx hb hg in_M t_M o_M n_M hown hK hP hD hS 0 rfl rfl 34 (by decide) (hg _ k986) (fun _ h9 => h9) rfl (o_M 34 (by decide)) rfl rfl (Nat.le_of_ble_eq_true rfl) d_M_getBits_2 (fun H locs hP hD hS => ?_)
  have hPD : my_PD (dC, dI) vwCl A [(o, Sum.inr (9, mO g 2 fShift fModels fItems fEnded fLow fRange fCache fPend fGoes fOuts (nI is.length) fReads 0 fIR (nI q) fBAsk (lN CD) fRL (lN RR) fX fWrites 0)), ((g 8), Sum.inl (cI, 6000, Sum.inl vIn))] H := ⟨hP, hD⟩
  have hP := hPD.1
  have hD := hPD.2
  refine lv_iload_n hx hb d_M_getBits_5 rfl (lv_at hl 1 rfl) ?_
  refine lv_iconst (v := 1) hx hb d_M_getBits_6 (by decide) ?_
  refine lv_aload_n hx hb d_M_getBits_7 rfl (lv_at hl 0 rfl) ?_
  refine va_get (D := (dC, dI)) (ci := 9) (v := .int 2) (C := "RangeCodersModel") (T := T_M) (N := 35) hx hb hg in_M hown hK hP 0 rfl rfl 0 (by decide) (hg _ k952) (fun _ h9 => h9) rfl d_M_getBits_8 ?_
  refine lv_iconst (v := 4) hx hb d_M_getBits_11 (by decide) ?_
  refine lv_icmp_ne (tgt := 20) hx hb d_M_getBits_12 (by decide) (fun c_1 => ?_) (fun c_1 => ?_)
  · refine lv_bipush (v := 12) hx hb d_M_getBits_20 (by decide) ?_
    refine my_ci (wr := [(o, Sum.inr (9, mO g 2 fShift fModels fItems fEnded fLow fRange fCache fPend fGoes fOuts (nI is.length) fReads 0 fIR (nI q) fBAsk (lN CD) fRL (lN RR) fX fWrites 0)), ((g 8), Sum.inl (cI, 6000, Sum.inl vIn))]) (va_runS (As := [Value.int (nI bb), Value.int 1, Value.int 12]) (rest := []) ⟨hx, hb, hml, hown, hts⟩ (c_M_in l dC dI cI cM cO H.size (nI bb) 1 12) (cwS 3 hts (my_gS k1062 k1063 k12 k1064) rfl rfl rfl (by decide +kernel) ⟨by rw [hR]; exact Nat.le_of_ble_eq_true rfl, by rw [hR]; exact Nat.le_of_ble_eq_true rfl⟩) (my_pre hK hN (hP.sub [] rfl) (hD.sub [] (by decide +kernel) rfl)) rfl rfl hl.1 rfl (lv_room (Nat.le_of_ble_eq_true rfl)) d_M_getBits_22 ⟨by rw [hR]; exact Nat.le_of_ble_eq_true rfl, by rw [hR]; exact Nat.le_of_ble_eq_true rfl⟩) hP hD hS hA [] [0, 1] rfl rfl (by decide +kernel) (by decide +kernel) (fun r_22 u9 H locs hw_22 hP hD hS => ?_)
    have hw_22 : r_22 = if 1 ≤ (nI bb) ∧ (nI bb) ≤ 12 then 1 else 0 := hw_22
    have hPD : my_PD (dC, dI) vwCl A [(o, Sum.inr (9, mO g 2 fShift fModels fItems fEnded fLow fRange fCache fPend fGoes fOuts (nI is.length) fReads 0 fIR (nI q) fBAsk (lN CD) fRL (lN RR) fX fWrites 0)), ((g 8), Sum.inl (cI, 6000, Sum.inl vIn))] H := ⟨hP, hD⟩
    have hP := hPD.1
    have hD := hPD.2
    refine lv_if_ne (tgt := 31) hx hb d_M_getBits_25 (by decide) (fun c_2 => ?_) (fun c_2 => ?_)
    · refine lv_aload_n hx hb d_M_getBits_31 rfl (lv_at hl 0 rfl) ?_
      refine va_get (D := (dC, dI)) (ci := 9) (v := .int fReads) (C := "RangeCodersModel") (T := T_M) (N := 35) hx hb hg in_M hown hK hP 0 rfl rfl 21 (by decide) (hg _ k973) (fun _ h9 => h9) rfl d_M_getBits_32 ?_
      refine lv_if_ne (tgt := 41) hx hb d_M_getBits_35 (by decide) (fun c_3 => ?_) (fun c_3 => ?_)
      · refine lv_aload_n hx hb d_M_getBits_41 rfl (lv_at hl 0 rfl) ?_
        refine va_get (D := (dC, dI)) (ci := 9) (v := .int 0) (C := "RangeCodersModel") (T := T_M) (N := 35) hx hb hg in_M hown hK hP 0 rfl rfl 22 (by decide) (hg _ k974) (fun _ h9 => h9) rfl d_M_getBits_42 ?_
        refine lv_if_eq (tgt := 51) hx hb d_M_getBits_45 (by decide) (fun c_4 => ?_) (fun c_4 => ?_)
        · refine lv_aload_n hx hb d_M_getBits_51 rfl (lv_at hl 0 rfl) ?_
          refine lv_iload_n hx hb d_M_getBits_52 rfl (lv_at hl 1 rfl) ?_
          refine my_ci (wr := []) (va_runV (As := [Value.int (nI bb)]) (rest := []) ⟨hx, hb, hml, hown, hts⟩ (c_M_valueOf2 l dC dI cI cM cO H.size o g fShift fModels fItems fEnded fLow fRange fCache fPend fGoes fOuts fReads 0 fIR fBAsk fRL fX fWrites 0 vIn bb RR CD is q (hIn) (hlen) (hoct) (by omega) (hb2) (hI)) (cwV 1 hts (my_gV k1260 k1262 ks59 k12 k1263) rfl rfl rfl cu_M_valueOf_1 ⟨by rw [hR]; exact Nat.le_of_ble_eq_true rfl, by rw [hR]; exact Nat.le_of_ble_eq_true rfl⟩) (my_preV hK hN (hP.sub [0, 1] rfl) (hD.sub [0, 1] (by decide +kernel) rfl) 0 rfl rfl) rfl rfl hl.1 rfl (lv_room (Nat.le_of_ble_eq_true rfl)) d_M_getBits_53 ⟨by rw [hR]; exact Nat.le_of_ble_eq_true rfl, by rw [hR]; exact Nat.le_of_ble_eq_true rfl⟩) hP hD hS hA [0, 1] [] rfl rfl (by decide +kernel) (by decide +kernel) (fun r_53 u9 H locs hw_53 hP hD hS => ?_)
          have hw_53 : r_53 = oI (pbS is bb (RR, CD, q)).1 := hw_53
          have hPD : my_PD (dC, dI) vwCl A [(o, Sum.inr (9, mO g 2 fShift fModels fItems fEnded fLow fRange fCache fPend fGoes fOuts (nI is.length) fReads 0 fIR (nI (pbS is bb (RR, CD, q)).2.2.2) fBAsk (lN (pbS is bb (RR, CD, q)).2.2.1) fRL (lN (pbS is bb (RR, CD, q)).2.1) fX fWrites 0)), ((g 8), Sum.inl (cI, 6000, Sum.inl vIn))] H := ⟨hP, hD⟩
          have hP := hPD.1
          have hD := hPD.2
          refine lv_istore_n (lv' := [(2, Value.int r_53), (0, Value.ref o), (1, Value.int (nI bb))]) hx hb d_M_getBits_56 rfl hl (by decide) rfl (fun ls hl => ?_)
          have hr8 : r_53 = -1 := by rw [hw_53, hG]; rfl
          refine lv_iload_n hx hb d_M_getBits_57 rfl (lv_at hl 0 rfl) ?_
          refine lv_if_ge (tgt := 66) hx hb d_M_getBits_58 (by decide) (fun c_5 => ?_) (fun c_5 => ?_)
          · exact absurd c_5 (by rw [hr8]; decide)
          · refine lv_aload_n hx hb d_M_getBits_61 rfl (lv_at hl 1 rfl) ?_
            refine my_ci (wr := [((g 8), Sum.inl (cI, 6000, Sum.inl vIn))]) (va_runV (As := []) (rest := []) ⟨hx, hb, hml, hown, hts⟩ (c_M_spoiled l dC dI cI cM cO H.size o g 2 fShift fModels fItems fEnded fLow fRange fCache fPend fGoes fOuts (nI is.length) fReads 0 fIR (nI (pbS is bb (RR, CD, q)).2.2.2) fBAsk (lN (pbS is bb (RR, CD, q)).2.2.1) fRL (lN (pbS is bb (RR, CD, q)).2.1) fX fWrites 0) (cwV 0 hts (my_gV k1252 k1254 ks58 k12 k1255) rfl rfl rfl cu_M_spoiled_0 ⟨by rw [hR]; exact Nat.le_of_ble_eq_true rfl, by rw [hR]; exact Nat.le_of_ble_eq_true rfl⟩) (my_preV hK hN (hP.sub [0] rfl) (hD.sub [0] (by decide +kernel) rfl) 0 rfl rfl) rfl rfl hl.1 rfl (lv_room (Nat.le_of_ble_eq_true rfl)) d_M_getBits_62 ⟨by rw [hR]; exact Nat.le_of_ble_eq_true rfl, by rw [hR]; exact Nat.le_of_ble_eq_true rfl⟩) hP hD hS hA [0] [1] rfl rfl (by decide +kernel) (by decide +kernel) (fun r_62 u9 H locs hw_62 hP hD hS => ?_)
            have hw_62 : r_62 = -5 := hw_62
            have hPD : my_PD (dC, dI) vwCl A [((g 8), Sum.inl (cI, 6000, Sum.inl vIn)), (o, Sum.inr (9, mO g 2 fShift fModels fItems fEnded fLow fRange fCache fPend fGoes fOuts (nI is.length) fReads 1 fIR (nI (pbS is bb (RR, CD, q)).2.2.2) fBAsk (lN (pbS is bb (RR, CD, q)).2.2.1) fRL (lN (pbS is bb (RR, CD, q)).2.1) fX fWrites 0))] H := ⟨hP, hD⟩
            have hP := hPD.1
            have hD := hPD.2
            exact my_iret (v := r_62) hx hb hr (rfl) hlocks hQ hK hS (Nat.le_refl _) (Nat.le_refl _) () (hw_62) (hP.sub [1, 0] rfl) (hD.sub [1, 0] (by decide +kernel) rfl) d_M_getBits_65
        · exact absurd (by decide) c_4
      · exact absurd c_3 hrd
    · exact absurd (show 1 ≤ nI bb ∧ nI bb ≤ nI 12 from ⟨nI_le (a := 1) hb1 (by omega), nI_le hb2 (by decide)⟩) (one_eq hw_22 c_2)
  · exact absurd c_1 (by decide)
set_option maxHeartbeats 2000000 in
set_option maxRecDepth 100000 in
theorem m_gb3W (l : Launch) (dC : Nat → ClassId) (dI : Nat → Nat → Nat) (cI cM cO : ClassId) (sz : Nat) (o : Nat) (g : Nat → Nat) (fShift : Int32) (fModels : Int32) (fItems : Int32) (fEnded : Int32) (fLow : Int64) (fRange : Int64) (fCache : Int32) (fPend : Int32) (fGoes : Int32) (fOuts : Int32) (fIns : Int32) (fReads : Int32) (fBad : Int32) (fIR : Int32) (fAsk : Int32) (fBAsk : Int32) (fCode : Int64) (fRL : Int64) (fRR : Int64) (fX : Int64) (fWrites : Int32) (fThrown : Int32) (p1 : Int32) (hno : ¬ (1 ≤ p1 ∧ p1 ≤ nI 12)) : MetI l y_M_getBits (Cond.code y_M_getBits prog_14_method_57_code 3 (some .int) :: gw) ({ frames := 1, cells := 0, slots := 0, locals := 22 } : Room) (dC, dI) vwCl (kT cI cM cO) [Value.ref o, Value.int p1] [(o, Sum.inr (9, mO g 3 fShift fModels fItems fEnded fLow fRange fCache fPend fGoes fOuts fIns fReads fBad fIR fAsk fBAsk fCode fRL fRR fX fWrites fThrown))] sz (fun (r : Int32) (u : Unit) => r = -2) (fun (u : Unit) => [(o, Sum.inr (9, mO g 3 fShift fModels fItems fEnded fLow fRange fCache fPend fGoes fOuts fIns fReads fBad fIR fAsk fBAsk fCode fRL fRR fX fWrites 0))]) 0 0 := by
  refine my_ofI (cc := prog_14_method_57_code) (n := 3) (ret := (some .int)) (by decide) rfl (Nat.le_of_ble_eq_true rfl) ?_
  intro p e s m args below meth c R Q A ls H locs hx hb hr hts hown hlocks hml hnm hR hQ hA hl hP hK hN hD hS
  have hg : ∀ w ∈ gw, w.before args s = true := fun w h => hts w (List.mem_cons_of_mem _ h)
  have hown : s.vm.findClass "RangeCodersModel" = some m.cls := hown
  have hl : lv_has ls 3 [(0, Value.ref o), (1, Value.int p1)] := hl
  refine lv_aload_n hx hb d_M_getBits_0 rfl (lv_at hl 0 rfl) ?_
  refine lv_iconst (v := 0) hx hb d_M_getBits_1 (by decide) ?_
  refine va_put (D := (dC, dI)) (ci := 9) (v := .int 0) (ty := .int) (C := "RangeCodersModel") (T := T_M) (N := 35) hx hb hg in_M t_M o_M n_M hown hK hP hD hS 0 rfl rfl 34 (by decide) (hg _ k986) (fun _ h9 => h9) rfl (o_M 34 (by decide)) rfl rfl (Nat.le_of_ble_eq_true rfl) d_M_getBits_2 (fun H locs hP hD hS => ?_)
  have hPD : my_PD (dC, dI) vwCl A [(o, Sum.inr (9, mO g 3 fShift fModels fItems fEnded fLow fRange fCache fPend fGoes fOuts fIns fReads fBad fIR fAsk fBAsk fCode fRL fRR fX fWrites 0))] H := ⟨hP, hD⟩
  have hP := hPD.1
  have hD := hPD.2
  refine lv_iload_n hx hb d_M_getBits_5 rfl (lv_at hl 1 rfl) ?_
  refine lv_iconst (v := 1) hx hb d_M_getBits_6 (by decide) ?_
  refine lv_aload_n hx hb d_M_getBits_7 rfl (lv_at hl 0 rfl) ?_
  refine va_get (D := (dC, dI)) (ci := 9) (v := .int 3) (C := "RangeCodersModel") (T := T_M) (N := 35) hx hb hg in_M hown hK hP 0 rfl rfl 0 (by decide) (hg _ k952) (fun _ h9 => h9) rfl d_M_getBits_8 ?_
  refine lv_iconst (v := 4) hx hb d_M_getBits_11 (by decide) ?_
  refine lv_icmp_ne (tgt := 20) hx hb d_M_getBits_12 (by decide) (fun c_1 => ?_) (fun c_1 => ?_)
  · refine lv_bipush (v := 12) hx hb d_M_getBits_20 (by decide) ?_
    refine my_ci (wr := [(o, Sum.inr (9, mO g 3 fShift fModels fItems fEnded fLow fRange fCache fPend fGoes fOuts fIns fReads fBad fIR fAsk fBAsk fCode fRL fRR fX fWrites 0))]) (va_runS (As := [Value.int p1, Value.int 1, Value.int 12]) (rest := []) ⟨hx, hb, hml, hown, hts⟩ (c_M_in l dC dI cI cM cO H.size p1 1 12) (cwS 3 hts (my_gS k1062 k1063 k12 k1064) rfl rfl rfl (by decide +kernel) ⟨by rw [hR]; exact Nat.le_of_ble_eq_true rfl, by rw [hR]; exact Nat.le_of_ble_eq_true rfl⟩) (my_pre hK hN (hP.sub [] rfl) (hD.sub [] (by decide +kernel) rfl)) rfl rfl hl.1 rfl (lv_room (Nat.le_of_ble_eq_true rfl)) d_M_getBits_22 ⟨by rw [hR]; exact Nat.le_of_ble_eq_true rfl, by rw [hR]; exact Nat.le_of_ble_eq_true rfl⟩) hP hD hS hA [] [0] rfl rfl (by decide +kernel) (by decide +kernel) (fun r_22 u9 H locs hw_22 hP hD hS => ?_)
    have hw_22 : r_22 = if 1 ≤ p1 ∧ p1 ≤ 12 then 1 else 0 := hw_22
    have hPD : my_PD (dC, dI) vwCl A [(o, Sum.inr (9, mO g 3 fShift fModels fItems fEnded fLow fRange fCache fPend fGoes fOuts fIns fReads fBad fIR fAsk fBAsk fCode fRL fRR fX fWrites 0))] H := ⟨hP, hD⟩
    have hP := hPD.1
    have hD := hPD.2
    refine lv_if_ne (tgt := 31) hx hb d_M_getBits_25 (by decide) (fun c_2 => ?_) (fun c_2 => ?_)
    · exact absurd (one_ne hw_22 c_2) hno
    · refine lv_bipush (v := (-2)) hx hb d_M_getBits_28 (by decide) ?_
      exact my_iret (v := (-2)) hx hb hr (rfl) hlocks hQ hK hS (Nat.le_refl _) (Nat.le_refl _) () (rfl) (hP.sub [0] rfl) (hD.sub [0] (by decide +kernel) rfl) d_M_getBits_30
  · exact absurd c_1 (by decide)
set_option maxHeartbeats 2000000 in
set_option maxRecDepth 100000 in
theorem m_gb3N (l : Launch) (dC : Nat → ClassId) (dI : Nat → Nat → Nat) (cI cM cO : ClassId) (sz : Nat) (o : Nat) (g : Nat → Nat) (fShift : Int32) (fModels : Int32) (fItems : Int32) (fEnded : Int32) (fLow : Int64) (fRange : Int64) (fCache : Int32) (fPend : Int32) (fGoes : Int32) (fOuts : Int32) (fIns : Int32) (fReads : Int32) (fBad : Int32) (fIR : Int32) (fAsk : Int32) (fBAsk : Int32) (fCode : Int64) (fRL : Int64) (fRR : Int64) (fX : Int64) (fWrites : Int32) (fThrown : Int32) (bb : Nat) (hb1 : 1 ≤ bb) (hb2 : bb ≤ 12) (hrd : fReads = 0) : MetI l y_M_getBits (Cond.code y_M_getBits prog_14_method_57_code 3 (some .int) :: gw) ({ frames := 1, cells := 0, slots := 0, locals := 22 } : Room) (dC, dI) vwCl (kT cI cM cO) [Value.ref o, Value.int (nI bb)] [(o, Sum.inr (9, mO g 3 fShift fModels fItems fEnded fLow fRange fCache fPend fGoes fOuts fIns fReads fBad fIR fAsk fBAsk fCode fRL fRR fX fWrites fThrown))] sz (fun (r : Int32) (u : Unit) => r = -3) (fun (u : Unit) => [(o, Sum.inr (9, mO g 3 fShift fModels fItems fEnded fLow fRange fCache fPend fGoes fOuts fIns fReads fBad fIR fAsk fBAsk fCode fRL fRR fX fWrites 0))]) 0 0 := by
  refine my_ofI (cc := prog_14_method_57_code) (n := 3) (ret := (some .int)) (by decide) rfl (Nat.le_of_ble_eq_true rfl) ?_
  intro p e s m args below meth c R Q A ls H locs hx hb hr hts hown hlocks hml hnm hR hQ hA hl hP hK hN hD hS
  have hg : ∀ w ∈ gw, w.before args s = true := fun w h => hts w (List.mem_cons_of_mem _ h)
  have hown : s.vm.findClass "RangeCodersModel" = some m.cls := hown
  have hl : lv_has ls 3 [(0, Value.ref o), (1, Value.int (nI bb))] := hl
  refine lv_aload_n hx hb d_M_getBits_0 rfl (lv_at hl 0 rfl) ?_
  refine lv_iconst (v := 0) hx hb d_M_getBits_1 (by decide) ?_
  refine va_put (D := (dC, dI)) (ci := 9) (v := .int 0) (ty := .int) (C := "RangeCodersModel") (T := T_M) (N := 35) hx hb hg in_M t_M o_M n_M hown hK hP hD hS 0 rfl rfl 34 (by decide) (hg _ k986) (fun _ h9 => h9) rfl (o_M 34 (by decide)) rfl rfl (Nat.le_of_ble_eq_true rfl) d_M_getBits_2 (fun H locs hP hD hS => ?_)
  have hPD : my_PD (dC, dI) vwCl A [(o, Sum.inr (9, mO g 3 fShift fModels fItems fEnded fLow fRange fCache fPend fGoes fOuts fIns fReads fBad fIR fAsk fBAsk fCode fRL fRR fX fWrites 0))] H := ⟨hP, hD⟩
  have hP := hPD.1
  have hD := hPD.2
  refine lv_iload_n hx hb d_M_getBits_5 rfl (lv_at hl 1 rfl) ?_
  refine lv_iconst (v := 1) hx hb d_M_getBits_6 (by decide) ?_
  refine lv_aload_n hx hb d_M_getBits_7 rfl (lv_at hl 0 rfl) ?_
  refine va_get (D := (dC, dI)) (ci := 9) (v := .int 3) (C := "RangeCodersModel") (T := T_M) (N := 35) hx hb hg in_M hown hK hP 0 rfl rfl 0 (by decide) (hg _ k952) (fun _ h9 => h9) rfl d_M_getBits_8 ?_
  refine lv_iconst (v := 4) hx hb d_M_getBits_11 (by decide) ?_
  refine lv_icmp_ne (tgt := 20) hx hb d_M_getBits_12 (by decide) (fun c_1 => ?_) (fun c_1 => ?_)
  · refine lv_bipush (v := 12) hx hb d_M_getBits_20 (by decide) ?_
    refine my_ci (wr := [(o, Sum.inr (9, mO g 3 fShift fModels fItems fEnded fLow fRange fCache fPend fGoes fOuts fIns fReads fBad fIR fAsk fBAsk fCode fRL fRR fX fWrites 0))]) (va_runS (As := [Value.int (nI bb), Value.int 1, Value.int 12]) (rest := []) ⟨hx, hb, hml, hown, hts⟩ (c_M_in l dC dI cI cM cO H.size (nI bb) 1 12) (cwS 3 hts (my_gS k1062 k1063 k12 k1064) rfl rfl rfl (by decide +kernel) ⟨by rw [hR]; exact Nat.le_of_ble_eq_true rfl, by rw [hR]; exact Nat.le_of_ble_eq_true rfl⟩) (my_pre hK hN (hP.sub [] rfl) (hD.sub [] (by decide +kernel) rfl)) rfl rfl hl.1 rfl (lv_room (Nat.le_of_ble_eq_true rfl)) d_M_getBits_22 ⟨by rw [hR]; exact Nat.le_of_ble_eq_true rfl, by rw [hR]; exact Nat.le_of_ble_eq_true rfl⟩) hP hD hS hA [] [0] rfl rfl (by decide +kernel) (by decide +kernel) (fun r_22 u9 H locs hw_22 hP hD hS => ?_)
    have hw_22 : r_22 = if 1 ≤ (nI bb) ∧ (nI bb) ≤ 12 then 1 else 0 := hw_22
    have hPD : my_PD (dC, dI) vwCl A [(o, Sum.inr (9, mO g 3 fShift fModels fItems fEnded fLow fRange fCache fPend fGoes fOuts fIns fReads fBad fIR fAsk fBAsk fCode fRL fRR fX fWrites 0))] H := ⟨hP, hD⟩
    have hP := hPD.1
    have hD := hPD.2
    refine lv_if_ne (tgt := 31) hx hb d_M_getBits_25 (by decide) (fun c_2 => ?_) (fun c_2 => ?_)
    · refine lv_aload_n hx hb d_M_getBits_31 rfl (lv_at hl 0 rfl) ?_
      refine va_get (D := (dC, dI)) (ci := 9) (v := .int fReads) (C := "RangeCodersModel") (T := T_M) (N := 35) hx hb hg in_M hown hK hP 0 rfl rfl 21 (by decide) (hg _ k973) (fun _ h9 => h9) rfl d_M_getBits_32 ?_
      refine lv_if_ne (tgt := 41) hx hb d_M_getBits_35 (by decide) (fun c_3 => ?_) (fun c_3 => ?_)
      · exact absurd hrd c_3
      · refine lv_bipush (v := (-3)) hx hb d_M_getBits_38 (by decide) ?_
        exact my_iret (v := (-3)) hx hb hr (rfl) hlocks hQ hK hS (Nat.le_refl _) (Nat.le_refl _) () (rfl) (hP.sub [0] rfl) (hD.sub [0] (by decide +kernel) rfl) d_M_getBits_40
    · exact absurd (show 1 ≤ nI bb ∧ nI bb ≤ nI 12 from ⟨nI_le (a := 1) hb1 (by omega), nI_le hb2 (by decide)⟩) (one_eq hw_22 c_2)
  · exact absurd c_1 (by decide)
set_option maxHeartbeats 2000000 in
set_option maxRecDepth 100000 in
theorem m_gb3B (l : Launch) (dC : Nat → ClassId) (dI : Nat → Nat → Nat) (cI cM cO : ClassId) (sz : Nat) (o : Nat) (g : Nat → Nat) (fShift : Int32) (fModels : Int32) (fItems : Int32) (fEnded : Int32) (fLow : Int64) (fRange : Int64) (fCache : Int32) (fPend : Int32) (fGoes : Int32) (fOuts : Int32) (fIns : Int32) (fReads : Int32) (fBad : Int32) (fIR : Int32) (fAsk : Int32) (fBAsk : Int32) (fCode : Int64) (fRL : Int64) (fRR : Int64) (fX : Int64) (fWrites : Int32) (fThrown : Int32) (bb : Nat) (hb1 : 1 ≤ bb) (hb2 : bb ≤ 12) (hrd : ¬ fReads = 0) (hbd : ¬ fBad = 0) : MetI l y_M_getBits (Cond.code y_M_getBits prog_14_method_57_code 3 (some .int) :: gw) ({ frames := 1, cells := 0, slots := 0, locals := 22 } : Room) (dC, dI) vwCl (kT cI cM cO) [Value.ref o, Value.int (nI bb)] [(o, Sum.inr (9, mO g 3 fShift fModels fItems fEnded fLow fRange fCache fPend fGoes fOuts fIns fReads fBad fIR fAsk fBAsk fCode fRL fRR fX fWrites fThrown))] sz (fun (r : Int32) (u : Unit) => r = -5) (fun (u : Unit) => [(o, Sum.inr (9, mO g 3 fShift fModels fItems fEnded fLow fRange fCache fPend fGoes fOuts fIns fReads fBad fIR fAsk fBAsk fCode fRL fRR fX fWrites 0))]) 0 0 := by
  refine my_ofI (cc := prog_14_method_57_code) (n := 3) (ret := (some .int)) (by decide) rfl (Nat.le_of_ble_eq_true rfl) ?_
  intro p e s m args below meth c R Q A ls H locs hx hb hr hts hown hlocks hml hnm hR hQ hA hl hP hK hN hD hS
  have hg : ∀ w ∈ gw, w.before args s = true := fun w h => hts w (List.mem_cons_of_mem _ h)
  have hown : s.vm.findClass "RangeCodersModel" = some m.cls := hown
  have hl : lv_has ls 3 [(0, Value.ref o), (1, Value.int (nI bb))] := hl
  refine lv_aload_n hx hb d_M_getBits_0 rfl (lv_at hl 0 rfl) ?_
  refine lv_iconst (v := 0) hx hb d_M_getBits_1 (by decide) ?_
  refine va_put (D := (dC, dI)) (ci := 9) (v := .int 0) (ty := .int) (C := "RangeCodersModel") (T := T_M) (N := 35) hx hb hg in_M t_M o_M n_M hown hK hP hD hS 0 rfl rfl 34 (by decide) (hg _ k986) (fun _ h9 => h9) rfl (o_M 34 (by decide)) rfl rfl (Nat.le_of_ble_eq_true rfl) d_M_getBits_2 (fun H locs hP hD hS => ?_)
  have hPD : my_PD (dC, dI) vwCl A [(o, Sum.inr (9, mO g 3 fShift fModels fItems fEnded fLow fRange fCache fPend fGoes fOuts fIns fReads fBad fIR fAsk fBAsk fCode fRL fRR fX fWrites 0))] H := ⟨hP, hD⟩
  have hP := hPD.1
  have hD := hPD.2
  refine lv_iload_n hx hb d_M_getBits_5 rfl (lv_at hl 1 rfl) ?_
  refine lv_iconst (v := 1) hx hb d_M_getBits_6 (by decide) ?_
  refine lv_aload_n hx hb d_M_getBits_7 rfl (lv_at hl 0 rfl) ?_
  refine va_get (D := (dC, dI)) (ci := 9) (v := .int 3) (C := "RangeCodersModel") (T := T_M) (N := 35) hx hb hg in_M hown hK hP 0 rfl rfl 0 (by decide) (hg _ k952) (fun _ h9 => h9) rfl d_M_getBits_8 ?_
  refine lv_iconst (v := 4) hx hb d_M_getBits_11 (by decide) ?_
  refine lv_icmp_ne (tgt := 20) hx hb d_M_getBits_12 (by decide) (fun c_1 => ?_) (fun c_1 => ?_)
  · refine lv_bipush (v := 12) hx hb d_M_getBits_20 (by decide) ?_
    refine my_ci (wr := [(o, Sum.inr (9, mO g 3 fShift fModels fItems fEnded fLow fRange fCache fPend fGoes fOuts fIns fReads fBad fIR fAsk fBAsk fCode fRL fRR fX fWrites 0))]) (va_runS (As := [Value.int (nI bb), Value.int 1, Value.int 12]) (rest := []) ⟨hx, hb, hml, hown, hts⟩ (c_M_in l dC dI cI cM cO H.size (nI bb) 1 12) (cwS 3 hts (my_gS k1062 k1063 k12 k1064) rfl rfl rfl (by decide +kernel) ⟨by rw [hR]; exact Nat.le_of_ble_eq_true rfl, by rw [hR]; exact Nat.le_of_ble_eq_true rfl⟩) (my_pre hK hN (hP.sub [] rfl) (hD.sub [] (by decide +kernel) rfl)) rfl rfl hl.1 rfl (lv_room (Nat.le_of_ble_eq_true rfl)) d_M_getBits_22 ⟨by rw [hR]; exact Nat.le_of_ble_eq_true rfl, by rw [hR]; exact Nat.le_of_ble_eq_true rfl⟩) hP hD hS hA [] [0] rfl rfl (by decide +kernel) (by decide +kernel) (fun r_22 u9 H locs hw_22 hP hD hS => ?_)
    have hw_22 : r_22 = if 1 ≤ (nI bb) ∧ (nI bb) ≤ 12 then 1 else 0 := hw_22
    have hPD : my_PD (dC, dI) vwCl A [(o, Sum.inr (9, mO g 3 fShift fModels fItems fEnded fLow fRange fCache fPend fGoes fOuts fIns fReads fBad fIR fAsk fBAsk fCode fRL fRR fX fWrites 0))] H := ⟨hP, hD⟩
    have hP := hPD.1
    have hD := hPD.2
    refine lv_if_ne (tgt := 31) hx hb d_M_getBits_25 (by decide) (fun c_2 => ?_) (fun c_2 => ?_)
    · refine lv_aload_n hx hb d_M_getBits_31 rfl (lv_at hl 0 rfl) ?_
      refine va_get (D := (dC, dI)) (ci := 9) (v := .int fReads) (C := "RangeCodersModel") (T := T_M) (N := 35) hx hb hg in_M hown hK hP 0 rfl rfl 21 (by decide) (hg _ k973) (fun _ h9 => h9) rfl d_M_getBits_32 ?_
      refine lv_if_ne (tgt := 41) hx hb d_M_getBits_35 (by decide) (fun c_3 => ?_) (fun c_3 => ?_)
      · refine lv_aload_n hx hb d_M_getBits_41 rfl (lv_at hl 0 rfl) ?_
        refine va_get (D := (dC, dI)) (ci := 9) (v := .int fBad) (C := "RangeCodersModel") (T := T_M) (N := 35) hx hb hg in_M hown hK hP 0 rfl rfl 22 (by decide) (hg _ k974) (fun _ h9 => h9) rfl d_M_getBits_42 ?_
        refine lv_if_eq (tgt := 51) hx hb d_M_getBits_45 (by decide) (fun c_4 => ?_) (fun c_4 => ?_)
        · exact absurd c_4 hbd
        · refine lv_bipush (v := (-5)) hx hb d_M_getBits_48 (by decide) ?_
          exact my_iret (v := (-5)) hx hb hr (rfl) hlocks hQ hK hS (Nat.le_refl _) (Nat.le_refl _) () (rfl) (hP.sub [0] rfl) (hD.sub [0] (by decide +kernel) rfl) d_M_getBits_50
      · exact absurd c_3 hrd
    · exact absurd (show 1 ≤ nI bb ∧ nI bb ≤ nI 12 from ⟨nI_le (a := 1) hb1 (by omega), nI_le hb2 (by decide)⟩) (one_eq hw_22 c_2)
  · exact absurd c_1 (by decide)
set_option maxHeartbeats 2000000 in
set_option maxRecDepth 100000 in
theorem m_gb3L (l : Launch) (dC : Nat → ClassId) (dI : Nat → Nat → Nat) (cI cM cO : ClassId) (sz : Nat) (o : Nat) (g : Nat → Nat) (fShift : Int32) (fModels : Int32) (fItems : Int32) (fEnded : Int32) (fLow : Int64) (fRange : Int64) (fCache : Int32) (fPend : Int32) (fGoes : Int32) (fOuts : Int32) (fReads : Int32) (fIR : Int32) (fBAsk : Int32) (fCode : Int64) (fRL : Int64) (fRR : Int64) (fWrites : Int32) (fThrown : Int32) (vIn : Nat → Int32) (bb : Nat) (X : Nat) (is : List Nat) (q : Nat) (hb1 : 1 ≤ bb) (hb2 : bb ≤ 12) (hrd : ¬ fReads = 0) (hX0 : 8388608 ≤ X) (hX1 : X < 4294967296) (hIn : gIs vIn is) (hlen : is.length ≤ 6000) (hoct : oct is) (hq : q < 700000) (hs9 : X % 4096 / (4096 / 2 ^ bb) < 2147483648) : MetI l y_M_getBits (Cond.code y_M_getBits prog_14_method_57_code 3 (some .int) :: gw) ({ frames := 3, cells := 0, slots := 0, locals := 65 } : Room) (dC, dI) vwCl (kT cI cM cO) [Value.ref o, Value.int (nI bb)] [(o, Sum.inr (9, mO g 3 fShift fModels fItems fEnded fLow fRange fCache fPend fGoes fOuts (nI is.length) fReads 0 fIR (nI q) fBAsk fCode fRL fRR (lN X) fWrites fThrown)), ((g 8), Sum.inl (cI, 6000, Sum.inl vIn))] sz (fun (r : Int32) (u : Int32) => r = nI (X % 4096 / (4096 / 2 ^ bb))) (fun (u : Int32) => [(o, Sum.inr (9, mO g 3 fShift fModels fItems fEnded fLow fRange fCache fPend fGoes fOuts (nI is.length) fReads 0 u (nI (gv3 is bb X q).2) fBAsk fCode fRL fRR (lN (gv3 is bb X q).1) fWrites 0)), ((g 8), Sum.inl (cI, 6000, Sum.inl vIn))]) 0 0 := by
  refine my_ofI (cc := prog_14_method_57_code) (n := 3) (ret := (some .int)) (by decide) rfl (Nat.le_of_ble_eq_true rfl) ?_
  intro p e s m args below meth c R Q A ls H locs hx hb hr hts hown hlocks hml hnm hR hQ hA hl hP hK hN hD hS
  have hg : ∀ w ∈ gw, w.before args s = true := fun w h => hts w (List.mem_cons_of_mem _ h)
  have hown : s.vm.findClass "RangeCodersModel" = some m.cls := hown
  have hl : lv_has ls 3 [(0, Value.ref o), (1, Value.int (nI bb))] := hl
  refine lv_aload_n hx hb d_M_getBits_0 rfl (lv_at hl 0 rfl) ?_
  refine lv_iconst (v := 0) hx hb d_M_getBits_1 (by decide) ?_
  refine va_put (D := (dC, dI)) (ci := 9) (v := .int 0) (ty := .int) (C := "RangeCodersModel") (T := T_M) (N := 35) hx hb hg in_M t_M o_M n_M hown hK hP hD hS 0 rfl rfl 34 (by decide) (hg _ k986) (fun _ h9 => h9) rfl (o_M 34 (by decide)) rfl rfl (Nat.le_of_ble_eq_true rfl) d_M_getBits_2 (fun H locs hP hD hS => ?_)
  have hPD : my_PD (dC, dI) vwCl A [(o, Sum.inr (9, mO g 3 fShift fModels fItems fEnded fLow fRange fCache fPend fGoes fOuts (nI is.length) fReads 0 fIR (nI q) fBAsk fCode fRL fRR (lN X) fWrites 0)), ((g 8), Sum.inl (cI, 6000, Sum.inl vIn))] H := ⟨hP, hD⟩
  have hP := hPD.1
  have hD := hPD.2
  refine lv_iload_n hx hb d_M_getBits_5 rfl (lv_at hl 1 rfl) ?_
  refine lv_iconst (v := 1) hx hb d_M_getBits_6 (by decide) ?_
  refine lv_aload_n hx hb d_M_getBits_7 rfl (lv_at hl 0 rfl) ?_
  refine va_get (D := (dC, dI)) (ci := 9) (v := .int 3) (C := "RangeCodersModel") (T := T_M) (N := 35) hx hb hg in_M hown hK hP 0 rfl rfl 0 (by decide) (hg _ k952) (fun _ h9 => h9) rfl d_M_getBits_8 ?_
  refine lv_iconst (v := 4) hx hb d_M_getBits_11 (by decide) ?_
  refine lv_icmp_ne (tgt := 20) hx hb d_M_getBits_12 (by decide) (fun c_1 => ?_) (fun c_1 => ?_)
  · refine lv_bipush (v := 12) hx hb d_M_getBits_20 (by decide) ?_
    refine my_ci (wr := [(o, Sum.inr (9, mO g 3 fShift fModels fItems fEnded fLow fRange fCache fPend fGoes fOuts (nI is.length) fReads 0 fIR (nI q) fBAsk fCode fRL fRR (lN X) fWrites 0)), ((g 8), Sum.inl (cI, 6000, Sum.inl vIn))]) (va_runS (As := [Value.int (nI bb), Value.int 1, Value.int 12]) (rest := []) ⟨hx, hb, hml, hown, hts⟩ (c_M_in l dC dI cI cM cO H.size (nI bb) 1 12) (cwS 3 hts (my_gS k1062 k1063 k12 k1064) rfl rfl rfl (by decide +kernel) ⟨by rw [hR]; exact Nat.le_of_ble_eq_true rfl, by rw [hR]; exact Nat.le_of_ble_eq_true rfl⟩) (my_pre hK hN (hP.sub [] rfl) (hD.sub [] (by decide +kernel) rfl)) rfl rfl hl.1 rfl (lv_room (Nat.le_of_ble_eq_true rfl)) d_M_getBits_22 ⟨by rw [hR]; exact Nat.le_of_ble_eq_true rfl, by rw [hR]; exact Nat.le_of_ble_eq_true rfl⟩) hP hD hS hA [] [0, 1] rfl rfl (by decide +kernel) (by decide +kernel) (fun r_22 u9 H locs hw_22 hP hD hS => ?_)
    have hw_22 : r_22 = if 1 ≤ (nI bb) ∧ (nI bb) ≤ 12 then 1 else 0 := hw_22
    have hPD : my_PD (dC, dI) vwCl A [(o, Sum.inr (9, mO g 3 fShift fModels fItems fEnded fLow fRange fCache fPend fGoes fOuts (nI is.length) fReads 0 fIR (nI q) fBAsk fCode fRL fRR (lN X) fWrites 0)), ((g 8), Sum.inl (cI, 6000, Sum.inl vIn))] H := ⟨hP, hD⟩
    have hP := hPD.1
    have hD := hPD.2
    refine lv_if_ne (tgt := 31) hx hb d_M_getBits_25 (by decide) (fun c_2 => ?_) (fun c_2 => ?_)
    · refine lv_aload_n hx hb d_M_getBits_31 rfl (lv_at hl 0 rfl) ?_
      refine va_get (D := (dC, dI)) (ci := 9) (v := .int fReads) (C := "RangeCodersModel") (T := T_M) (N := 35) hx hb hg in_M hown hK hP 0 rfl rfl 21 (by decide) (hg _ k973) (fun _ h9 => h9) rfl d_M_getBits_32 ?_
      refine lv_if_ne (tgt := 41) hx hb d_M_getBits_35 (by decide) (fun c_3 => ?_) (fun c_3 => ?_)
      · refine lv_aload_n hx hb d_M_getBits_41 rfl (lv_at hl 0 rfl) ?_
        refine va_get (D := (dC, dI)) (ci := 9) (v := .int 0) (C := "RangeCodersModel") (T := T_M) (N := 35) hx hb hg in_M hown hK hP 0 rfl rfl 22 (by decide) (hg _ k974) (fun _ h9 => h9) rfl d_M_getBits_42 ?_
        refine lv_if_eq (tgt := 51) hx hb d_M_getBits_45 (by decide) (fun c_4 => ?_) (fun c_4 => ?_)
        · refine lv_aload_n hx hb d_M_getBits_51 rfl (lv_at hl 0 rfl) ?_
          refine lv_iload_n hx hb d_M_getBits_52 rfl (lv_at hl 1 rfl) ?_
          refine my_ci (wr := []) (va_runV (As := [Value.int (nI bb)]) (rest := []) ⟨hx, hb, hml, hown, hts⟩ (c_M_valueOf3 l dC dI cI cM cO H.size o g fShift fModels fItems fEnded fLow fRange fCache fPend fGoes fOuts fReads 0 fIR fBAsk fCode fRL fRR fWrites 0 vIn bb X is q (hb1) (hb2) (hIn) (hlen) (hoct) (by omega) (hX0) (hX1)) (cwV 1 hts (my_gV k1260 k1262 ks59 k12 k1263) rfl rfl rfl cu_M_valueOf_1 ⟨by rw [hR]; exact Nat.le_of_ble_eq_true rfl, by rw [hR]; exact Nat.le_of_ble_eq_true rfl⟩) (my_preV hK hN (hP.sub [0, 1] rfl) (hD.sub [0, 1] (by decide +kernel) rfl) 0 rfl rfl) rfl rfl hl.1 rfl (lv_room (Nat.le_of_ble_eq_true rfl)) d_M_getBits_53 ⟨by rw [hR]; exact Nat.le_of_ble_eq_true rfl, by rw [hR]; exact Nat.le_of_ble_eq_true rfl⟩) hP hD hS hA [0, 1] [] rfl rfl (by decide +kernel) (by decide +kernel) (fun r_53 u9 H locs hw_53 hP hD hS => ?_)
          have hw_53 : r_53 = nI (X % 4096 / (4096 / 2 ^ bb)) := hw_53
          have hPD : my_PD (dC, dI) vwCl A [(o, Sum.inr (9, mO g 3 fShift fModels fItems fEnded fLow fRange fCache fPend fGoes fOuts (nI is.length) fReads 0 fIR (nI (gv3 is bb X q).2) fBAsk fCode fRL fRR (lN (gv3 is bb X q).1) fWrites 0)), ((g 8), Sum.inl (cI, 6000, Sum.inl vIn))] H := ⟨hP, hD⟩
          have hP := hPD.1
          have hD := hPD.2
          refine lv_istore_n (lv' := [(2, Value.int r_53), (0, Value.ref o), (1, Value.int (nI bb))]) hx hb d_M_getBits_56 rfl hl (by decide) rfl (fun ls hl => ?_)
          have hr8 : r_53 = nI (X % 4096 / (4096 / 2 ^ bb)) := hw_53
          refine lv_iload_n hx hb d_M_getBits_57 rfl (lv_at hl 0 rfl) ?_
          refine lv_if_ge (tgt := 66) hx hb d_M_getBits_58 (by decide) (fun c_5 => ?_) (fun c_5 => ?_)
          · refine lv_aload_n hx hb d_M_getBits_66 rfl (lv_at hl 1 rfl) ?_
            refine lv_dup hx hb d_M_getBits_67 rfl ?_
            refine va_get (D := (dC, dI)) (ci := 9) (v := .int fIR) (C := "RangeCodersModel") (T := T_M) (N := 35) hx hb hg in_M hown hK hP 0 rfl rfl 23 (by decide) (hg _ k975) (fun _ h9 => h9) rfl d_M_getBits_68 ?_
            refine lv_iconst (v := 1) hx hb d_M_getBits_71 (by decide) ?_
            refine lv_iadd hx hb d_M_getBits_72 ?_
            refine lv_topi (fun v_6 ev_6 => ?_)
            refine va_put (D := (dC, dI)) (ci := 9) (v := .int v_6) (ty := .int) (C := "RangeCodersModel") (T := T_M) (N := 35) hx hb hg in_M t_M o_M n_M hown hK hP hD hS 0 rfl rfl 23 (by decide) (hg _ k975) (fun _ h9 => h9) rfl (o_M 23 (by decide)) rfl rfl (Nat.le_of_ble_eq_true rfl) d_M_getBits_73 (fun H locs hP hD hS => ?_)
            have hPD : my_PD (dC, dI) vwCl A [(o, Sum.inr (9, mO g 3 fShift fModels fItems fEnded fLow fRange fCache fPend fGoes fOuts (nI is.length) fReads 0 v_6 (nI (gv3 is bb X q).2) fBAsk fCode fRL fRR (lN (gv3 is bb X q).1) fWrites 0)), ((g 8), Sum.inl (cI, 6000, Sum.inl vIn))] H := ⟨hP, hD⟩
            have hP := hPD.1
            have hD := hPD.2
            refine lv_iload_n hx hb d_M_getBits_76 rfl (lv_at hl 0 rfl) ?_
            exact my_iret (v := r_53) hx hb hr (rfl) hlocks hQ hK hS (Nat.le_refl _) (Nat.le_refl _) (v_6) (hr8) (hP.sub [0, 1] rfl) (hD.sub [0, 1] (by decide +kernel) rfl) d_M_getBits_77
          · exact absurd (by rw [hr8]; exact nI_pos' hs9) c_5
        · exact absurd (by decide) c_4
      · exact absurd c_3 hrd
    · exact absurd (show 1 ≤ nI bb ∧ nI bb ≤ nI 12 from ⟨nI_le (a := 1) hb1 (by omega), nI_le hb2 (by decide)⟩) (one_eq hw_22 c_2)
  · exact absurd c_1 (by decide)
set_option maxHeartbeats 2000000 in
set_option maxRecDepth 100000 in
theorem m_gb4W (l : Launch) (dC : Nat → ClassId) (dI : Nat → Nat → Nat) (cI cM cO : ClassId) (sz : Nat) (o : Nat) (g : Nat → Nat) (fShift : Int32) (fModels : Int32) (fItems : Int32) (fEnded : Int32) (fLow : Int64) (fRange : Int64) (fCache : Int32) (fPend : Int32) (fGoes : Int32) (fOuts : Int32) (fIns : Int32) (fReads : Int32) (fBad : Int32) (fIR : Int32) (fAsk : Int32) (fBAsk : Int32) (fCode : Int64) (fRL : Int64) (fRR : Int64) (fX : Int64) (fWrites : Int32) (fThrown : Int32) (p1 : Int32) (hno : ¬ (1 ≤ p1 ∧ p1 ≤ nI 9)) : MetI l y_M_getBits (Cond.code y_M_getBits prog_14_method_57_code 3 (some .int) :: gw) ({ frames := 1, cells := 0, slots := 0, locals := 22 } : Room) (dC, dI) vwCl (kT cI cM cO) [Value.ref o, Value.int p1] [(o, Sum.inr (9, mO g 4 fShift fModels fItems fEnded fLow fRange fCache fPend fGoes fOuts fIns fReads fBad fIR fAsk fBAsk fCode fRL fRR fX fWrites fThrown))] sz (fun (r : Int32) (u : Unit) => r = -2) (fun (u : Unit) => [(o, Sum.inr (9, mO g 4 fShift fModels fItems fEnded fLow fRange fCache fPend fGoes fOuts fIns fReads fBad fIR fAsk fBAsk fCode fRL fRR fX fWrites 0))]) 0 0 := by
  refine my_ofI (cc := prog_14_method_57_code) (n := 3) (ret := (some .int)) (by decide) rfl (Nat.le_of_ble_eq_true rfl) ?_
  intro p e s m args below meth c R Q A ls H locs hx hb hr hts hown hlocks hml hnm hR hQ hA hl hP hK hN hD hS
  have hg : ∀ w ∈ gw, w.before args s = true := fun w h => hts w (List.mem_cons_of_mem _ h)
  have hown : s.vm.findClass "RangeCodersModel" = some m.cls := hown
  have hl : lv_has ls 3 [(0, Value.ref o), (1, Value.int p1)] := hl
  refine lv_aload_n hx hb d_M_getBits_0 rfl (lv_at hl 0 rfl) ?_
  refine lv_iconst (v := 0) hx hb d_M_getBits_1 (by decide) ?_
  refine va_put (D := (dC, dI)) (ci := 9) (v := .int 0) (ty := .int) (C := "RangeCodersModel") (T := T_M) (N := 35) hx hb hg in_M t_M o_M n_M hown hK hP hD hS 0 rfl rfl 34 (by decide) (hg _ k986) (fun _ h9 => h9) rfl (o_M 34 (by decide)) rfl rfl (Nat.le_of_ble_eq_true rfl) d_M_getBits_2 (fun H locs hP hD hS => ?_)
  have hPD : my_PD (dC, dI) vwCl A [(o, Sum.inr (9, mO g 4 fShift fModels fItems fEnded fLow fRange fCache fPend fGoes fOuts fIns fReads fBad fIR fAsk fBAsk fCode fRL fRR fX fWrites 0))] H := ⟨hP, hD⟩
  have hP := hPD.1
  have hD := hPD.2
  refine lv_iload_n hx hb d_M_getBits_5 rfl (lv_at hl 1 rfl) ?_
  refine lv_iconst (v := 1) hx hb d_M_getBits_6 (by decide) ?_
  refine lv_aload_n hx hb d_M_getBits_7 rfl (lv_at hl 0 rfl) ?_
  refine va_get (D := (dC, dI)) (ci := 9) (v := .int 4) (C := "RangeCodersModel") (T := T_M) (N := 35) hx hb hg in_M hown hK hP 0 rfl rfl 0 (by decide) (hg _ k952) (fun _ h9 => h9) rfl d_M_getBits_8 ?_
  refine lv_iconst (v := 4) hx hb d_M_getBits_11 (by decide) ?_
  refine lv_icmp_ne (tgt := 20) hx hb d_M_getBits_12 (by decide) (fun c_1 => ?_) (fun c_1 => ?_)
  · exact absurd rfl c_1
  · refine lv_bipush (v := 9) hx hb d_M_getBits_15 (by decide) ?_
    refine lv_goto (tgt := 22) hx hb d_M_getBits_17 (by decide) ?_
    refine my_ci (wr := [(o, Sum.inr (9, mO g 4 fShift fModels fItems fEnded fLow fRange fCache fPend fGoes fOuts fIns fReads fBad fIR fAsk fBAsk fCode fRL fRR fX fWrites 0))]) (va_runS (As := [Value.int p1, Value.int 1, Value.int 9]) (rest := []) ⟨hx, hb, hml, hown, hts⟩ (c_M_in l dC dI cI cM cO H.size p1 1 9) (cwS 3 hts (my_gS k1062 k1063 k12 k1064) rfl rfl rfl (by decide +kernel) ⟨by rw [hR]; exact Nat.le_of_ble_eq_true rfl, by rw [hR]; exact Nat.le_of_ble_eq_true rfl⟩) (my_pre hK hN (hP.sub [] rfl) (hD.sub [] (by decide +kernel) rfl)) rfl rfl hl.1 rfl (lv_room (Nat.le_of_ble_eq_true rfl)) d_M_getBits_22 ⟨by rw [hR]; exact Nat.le_of_ble_eq_true rfl, by rw [hR]; exact Nat.le_of_ble_eq_true rfl⟩) hP hD hS hA [] [0] rfl rfl (by decide +kernel) (by decide +kernel) (fun r_22 u9 H locs hw_22 hP hD hS => ?_)
    have hw_22 : r_22 = if 1 ≤ p1 ∧ p1 ≤ 9 then 1 else 0 := hw_22
    have hPD : my_PD (dC, dI) vwCl A [(o, Sum.inr (9, mO g 4 fShift fModels fItems fEnded fLow fRange fCache fPend fGoes fOuts fIns fReads fBad fIR fAsk fBAsk fCode fRL fRR fX fWrites 0))] H := ⟨hP, hD⟩
    have hP := hPD.1
    have hD := hPD.2
    refine lv_if_ne (tgt := 31) hx hb d_M_getBits_25 (by decide) (fun c_2 => ?_) (fun c_2 => ?_)
    · exact absurd (one_ne hw_22 c_2) hno
    · refine lv_bipush (v := (-2)) hx hb d_M_getBits_28 (by decide) ?_
      exact my_iret (v := (-2)) hx hb hr (rfl) hlocks hQ hK hS (Nat.le_refl _) (Nat.le_refl _) () (rfl) (hP.sub [0] rfl) (hD.sub [0] (by decide +kernel) rfl) d_M_getBits_30
set_option maxHeartbeats 2000000 in
set_option maxRecDepth 100000 in
theorem m_gb4N (l : Launch) (dC : Nat → ClassId) (dI : Nat → Nat → Nat) (cI cM cO : ClassId) (sz : Nat) (o : Nat) (g : Nat → Nat) (fShift : Int32) (fModels : Int32) (fItems : Int32) (fEnded : Int32) (fLow : Int64) (fRange : Int64) (fCache : Int32) (fPend : Int32) (fGoes : Int32) (fOuts : Int32) (fIns : Int32) (fReads : Int32) (fBad : Int32) (fIR : Int32) (fAsk : Int32) (fBAsk : Int32) (fCode : Int64) (fRL : Int64) (fRR : Int64) (fX : Int64) (fWrites : Int32) (fThrown : Int32) (bb : Nat) (hb1 : 1 ≤ bb) (hb2 : bb ≤ 9) (hrd : fReads = 0) : MetI l y_M_getBits (Cond.code y_M_getBits prog_14_method_57_code 3 (some .int) :: gw) ({ frames := 1, cells := 0, slots := 0, locals := 22 } : Room) (dC, dI) vwCl (kT cI cM cO) [Value.ref o, Value.int (nI bb)] [(o, Sum.inr (9, mO g 4 fShift fModels fItems fEnded fLow fRange fCache fPend fGoes fOuts fIns fReads fBad fIR fAsk fBAsk fCode fRL fRR fX fWrites fThrown))] sz (fun (r : Int32) (u : Unit) => r = -3) (fun (u : Unit) => [(o, Sum.inr (9, mO g 4 fShift fModels fItems fEnded fLow fRange fCache fPend fGoes fOuts fIns fReads fBad fIR fAsk fBAsk fCode fRL fRR fX fWrites 0))]) 0 0 := by
  refine my_ofI (cc := prog_14_method_57_code) (n := 3) (ret := (some .int)) (by decide) rfl (Nat.le_of_ble_eq_true rfl) ?_
  intro p e s m args below meth c R Q A ls H locs hx hb hr hts hown hlocks hml hnm hR hQ hA hl hP hK hN hD hS
  have hg : ∀ w ∈ gw, w.before args s = true := fun w h => hts w (List.mem_cons_of_mem _ h)
  have hown : s.vm.findClass "RangeCodersModel" = some m.cls := hown
  have hl : lv_has ls 3 [(0, Value.ref o), (1, Value.int (nI bb))] := hl
  refine lv_aload_n hx hb d_M_getBits_0 rfl (lv_at hl 0 rfl) ?_
  refine lv_iconst (v := 0) hx hb d_M_getBits_1 (by decide) ?_
  refine va_put (D := (dC, dI)) (ci := 9) (v := .int 0) (ty := .int) (C := "RangeCodersModel") (T := T_M) (N := 35) hx hb hg in_M t_M o_M n_M hown hK hP hD hS 0 rfl rfl 34 (by decide) (hg _ k986) (fun _ h9 => h9) rfl (o_M 34 (by decide)) rfl rfl (Nat.le_of_ble_eq_true rfl) d_M_getBits_2 (fun H locs hP hD hS => ?_)
  have hPD : my_PD (dC, dI) vwCl A [(o, Sum.inr (9, mO g 4 fShift fModels fItems fEnded fLow fRange fCache fPend fGoes fOuts fIns fReads fBad fIR fAsk fBAsk fCode fRL fRR fX fWrites 0))] H := ⟨hP, hD⟩
  have hP := hPD.1
  have hD := hPD.2
  refine lv_iload_n hx hb d_M_getBits_5 rfl (lv_at hl 1 rfl) ?_
  refine lv_iconst (v := 1) hx hb d_M_getBits_6 (by decide) ?_
  refine lv_aload_n hx hb d_M_getBits_7 rfl (lv_at hl 0 rfl) ?_
  refine va_get (D := (dC, dI)) (ci := 9) (v := .int 4) (C := "RangeCodersModel") (T := T_M) (N := 35) hx hb hg in_M hown hK hP 0 rfl rfl 0 (by decide) (hg _ k952) (fun _ h9 => h9) rfl d_M_getBits_8 ?_
  refine lv_iconst (v := 4) hx hb d_M_getBits_11 (by decide) ?_
  refine lv_icmp_ne (tgt := 20) hx hb d_M_getBits_12 (by decide) (fun c_1 => ?_) (fun c_1 => ?_)
  · exact absurd rfl c_1
  · refine lv_bipush (v := 9) hx hb d_M_getBits_15 (by decide) ?_
    refine lv_goto (tgt := 22) hx hb d_M_getBits_17 (by decide) ?_
    refine my_ci (wr := [(o, Sum.inr (9, mO g 4 fShift fModels fItems fEnded fLow fRange fCache fPend fGoes fOuts fIns fReads fBad fIR fAsk fBAsk fCode fRL fRR fX fWrites 0))]) (va_runS (As := [Value.int (nI bb), Value.int 1, Value.int 9]) (rest := []) ⟨hx, hb, hml, hown, hts⟩ (c_M_in l dC dI cI cM cO H.size (nI bb) 1 9) (cwS 3 hts (my_gS k1062 k1063 k12 k1064) rfl rfl rfl (by decide +kernel) ⟨by rw [hR]; exact Nat.le_of_ble_eq_true rfl, by rw [hR]; exact Nat.le_of_ble_eq_true rfl⟩) (my_pre hK hN (hP.sub [] rfl) (hD.sub [] (by decide +kernel) rfl)) rfl rfl hl.1 rfl (lv_room (Nat.le_of_ble_eq_true rfl)) d_M_getBits_22 ⟨by rw [hR]; exact Nat.le_of_ble_eq_true rfl, by rw [hR]; exact Nat.le_of_ble_eq_true rfl⟩) hP hD hS hA [] [0] rfl rfl (by decide +kernel) (by decide +kernel) (fun r_22 u9 H locs hw_22 hP hD hS => ?_)
    have hw_22 : r_22 = if 1 ≤ (nI bb) ∧ (nI bb) ≤ 9 then 1 else 0 := hw_22
    have hPD : my_PD (dC, dI) vwCl A [(o, Sum.inr (9, mO g 4 fShift fModels fItems fEnded fLow fRange fCache fPend fGoes fOuts fIns fReads fBad fIR fAsk fBAsk fCode fRL fRR fX fWrites 0))] H := ⟨hP, hD⟩
    have hP := hPD.1
    have hD := hPD.2
    refine lv_if_ne (tgt := 31) hx hb d_M_getBits_25 (by decide) (fun c_2 => ?_) (fun c_2 => ?_)
    · refine lv_aload_n hx hb d_M_getBits_31 rfl (lv_at hl 0 rfl) ?_
      refine va_get (D := (dC, dI)) (ci := 9) (v := .int fReads) (C := "RangeCodersModel") (T := T_M) (N := 35) hx hb hg in_M hown hK hP 0 rfl rfl 21 (by decide) (hg _ k973) (fun _ h9 => h9) rfl d_M_getBits_32 ?_
      refine lv_if_ne (tgt := 41) hx hb d_M_getBits_35 (by decide) (fun c_3 => ?_) (fun c_3 => ?_)
      · exact absurd hrd c_3
      · refine lv_bipush (v := (-3)) hx hb d_M_getBits_38 (by decide) ?_
        exact my_iret (v := (-3)) hx hb hr (rfl) hlocks hQ hK hS (Nat.le_refl _) (Nat.le_refl _) () (rfl) (hP.sub [0] rfl) (hD.sub [0] (by decide +kernel) rfl) d_M_getBits_40
    · exact absurd (show 1 ≤ nI bb ∧ nI bb ≤ nI 9 from ⟨nI_le (a := 1) hb1 (by omega), nI_le hb2 (by decide)⟩) (one_eq hw_22 c_2)
set_option maxHeartbeats 2000000 in
set_option maxRecDepth 100000 in
theorem m_gb4B (l : Launch) (dC : Nat → ClassId) (dI : Nat → Nat → Nat) (cI cM cO : ClassId) (sz : Nat) (o : Nat) (g : Nat → Nat) (fShift : Int32) (fModels : Int32) (fItems : Int32) (fEnded : Int32) (fLow : Int64) (fRange : Int64) (fCache : Int32) (fPend : Int32) (fGoes : Int32) (fOuts : Int32) (fIns : Int32) (fReads : Int32) (fBad : Int32) (fIR : Int32) (fAsk : Int32) (fBAsk : Int32) (fCode : Int64) (fRL : Int64) (fRR : Int64) (fX : Int64) (fWrites : Int32) (fThrown : Int32) (bb : Nat) (hb1 : 1 ≤ bb) (hb2 : bb ≤ 9) (hrd : ¬ fReads = 0) (hbd : ¬ fBad = 0) : MetI l y_M_getBits (Cond.code y_M_getBits prog_14_method_57_code 3 (some .int) :: gw) ({ frames := 1, cells := 0, slots := 0, locals := 22 } : Room) (dC, dI) vwCl (kT cI cM cO) [Value.ref o, Value.int (nI bb)] [(o, Sum.inr (9, mO g 4 fShift fModels fItems fEnded fLow fRange fCache fPend fGoes fOuts fIns fReads fBad fIR fAsk fBAsk fCode fRL fRR fX fWrites fThrown))] sz (fun (r : Int32) (u : Unit) => r = -5) (fun (u : Unit) => [(o, Sum.inr (9, mO g 4 fShift fModels fItems fEnded fLow fRange fCache fPend fGoes fOuts fIns fReads fBad fIR fAsk fBAsk fCode fRL fRR fX fWrites 0))]) 0 0 := by
  refine my_ofI (cc := prog_14_method_57_code) (n := 3) (ret := (some .int)) (by decide) rfl (Nat.le_of_ble_eq_true rfl) ?_
  intro p e s m args below meth c R Q A ls H locs hx hb hr hts hown hlocks hml hnm hR hQ hA hl hP hK hN hD hS
  have hg : ∀ w ∈ gw, w.before args s = true := fun w h => hts w (List.mem_cons_of_mem _ h)
  have hown : s.vm.findClass "RangeCodersModel" = some m.cls := hown
  have hl : lv_has ls 3 [(0, Value.ref o), (1, Value.int (nI bb))] := hl
  refine lv_aload_n hx hb d_M_getBits_0 rfl (lv_at hl 0 rfl) ?_
  refine lv_iconst (v := 0) hx hb d_M_getBits_1 (by decide) ?_
  refine va_put (D := (dC, dI)) (ci := 9) (v := .int 0) (ty := .int) (C := "RangeCodersModel") (T := T_M) (N := 35) hx hb hg in_M t_M o_M n_M hown hK hP hD hS 0 rfl rfl 34 (by decide) (hg _ k986) (fun _ h9 => h9) rfl (o_M 34 (by decide)) rfl rfl (Nat.le_of_ble_eq_true rfl) d_M_getBits_2 (fun H locs hP hD hS => ?_)
  have hPD : my_PD (dC, dI) vwCl A [(o, Sum.inr (9, mO g 4 fShift fModels fItems fEnded fLow fRange fCache fPend fGoes fOuts fIns fReads fBad fIR fAsk fBAsk fCode fRL fRR fX fWrites 0))] H := ⟨hP, hD⟩
  have hP := hPD.1
  have hD := hPD.2
  refine lv_iload_n hx hb d_M_getBits_5 rfl (lv_at hl 1 rfl) ?_
  refine lv_iconst (v := 1) hx hb d_M_getBits_6 (by decide) ?_
  refine lv_aload_n hx hb d_M_getBits_7 rfl (lv_at hl 0 rfl) ?_
  refine va_get (D := (dC, dI)) (ci := 9) (v := .int 4) (C := "RangeCodersModel") (T := T_M) (N := 35) hx hb hg in_M hown hK hP 0 rfl rfl 0 (by decide) (hg _ k952) (fun _ h9 => h9) rfl d_M_getBits_8 ?_
  refine lv_iconst (v := 4) hx hb d_M_getBits_11 (by decide) ?_
  refine lv_icmp_ne (tgt := 20) hx hb d_M_getBits_12 (by decide) (fun c_1 => ?_) (fun c_1 => ?_)
  · exact absurd rfl c_1
  · refine lv_bipush (v := 9) hx hb d_M_getBits_15 (by decide) ?_
    refine lv_goto (tgt := 22) hx hb d_M_getBits_17 (by decide) ?_
    refine my_ci (wr := [(o, Sum.inr (9, mO g 4 fShift fModels fItems fEnded fLow fRange fCache fPend fGoes fOuts fIns fReads fBad fIR fAsk fBAsk fCode fRL fRR fX fWrites 0))]) (va_runS (As := [Value.int (nI bb), Value.int 1, Value.int 9]) (rest := []) ⟨hx, hb, hml, hown, hts⟩ (c_M_in l dC dI cI cM cO H.size (nI bb) 1 9) (cwS 3 hts (my_gS k1062 k1063 k12 k1064) rfl rfl rfl (by decide +kernel) ⟨by rw [hR]; exact Nat.le_of_ble_eq_true rfl, by rw [hR]; exact Nat.le_of_ble_eq_true rfl⟩) (my_pre hK hN (hP.sub [] rfl) (hD.sub [] (by decide +kernel) rfl)) rfl rfl hl.1 rfl (lv_room (Nat.le_of_ble_eq_true rfl)) d_M_getBits_22 ⟨by rw [hR]; exact Nat.le_of_ble_eq_true rfl, by rw [hR]; exact Nat.le_of_ble_eq_true rfl⟩) hP hD hS hA [] [0] rfl rfl (by decide +kernel) (by decide +kernel) (fun r_22 u9 H locs hw_22 hP hD hS => ?_)
    have hw_22 : r_22 = if 1 ≤ (nI bb) ∧ (nI bb) ≤ 9 then 1 else 0 := hw_22
    have hPD : my_PD (dC, dI) vwCl A [(o, Sum.inr (9, mO g 4 fShift fModels fItems fEnded fLow fRange fCache fPend fGoes fOuts fIns fReads fBad fIR fAsk fBAsk fCode fRL fRR fX fWrites 0))] H := ⟨hP, hD⟩
    have hP := hPD.1
    have hD := hPD.2
    refine lv_if_ne (tgt := 31) hx hb d_M_getBits_25 (by decide) (fun c_2 => ?_) (fun c_2 => ?_)
    · refine lv_aload_n hx hb d_M_getBits_31 rfl (lv_at hl 0 rfl) ?_
      refine va_get (D := (dC, dI)) (ci := 9) (v := .int fReads) (C := "RangeCodersModel") (T := T_M) (N := 35) hx hb hg in_M hown hK hP 0 rfl rfl 21 (by decide) (hg _ k973) (fun _ h9 => h9) rfl d_M_getBits_32 ?_
      refine lv_if_ne (tgt := 41) hx hb d_M_getBits_35 (by decide) (fun c_3 => ?_) (fun c_3 => ?_)
      · refine lv_aload_n hx hb d_M_getBits_41 rfl (lv_at hl 0 rfl) ?_
        refine va_get (D := (dC, dI)) (ci := 9) (v := .int fBad) (C := "RangeCodersModel") (T := T_M) (N := 35) hx hb hg in_M hown hK hP 0 rfl rfl 22 (by decide) (hg _ k974) (fun _ h9 => h9) rfl d_M_getBits_42 ?_
        refine lv_if_eq (tgt := 51) hx hb d_M_getBits_45 (by decide) (fun c_4 => ?_) (fun c_4 => ?_)
        · exact absurd c_4 hbd
        · refine lv_bipush (v := (-5)) hx hb d_M_getBits_48 (by decide) ?_
          exact my_iret (v := (-5)) hx hb hr (rfl) hlocks hQ hK hS (Nat.le_refl _) (Nat.le_refl _) () (rfl) (hP.sub [0] rfl) (hD.sub [0] (by decide +kernel) rfl) d_M_getBits_50
      · exact absurd c_3 hrd
    · exact absurd (show 1 ≤ nI bb ∧ nI bb ≤ nI 9 from ⟨nI_le (a := 1) hb1 (by omega), nI_le hb2 (by decide)⟩) (one_eq hw_22 c_2)
set_option maxHeartbeats 2000000 in
set_option maxRecDepth 100000 in
theorem m_gb4L (l : Launch) (dC : Nat → ClassId) (dI : Nat → Nat → Nat) (cI cM cO : ClassId) (sz : Nat) (o : Nat) (g : Nat → Nat) (fShift : Int32) (fModels : Int32) (fItems : Int32) (fEnded : Int32) (fLow : Int64) (fRange : Int64) (fCache : Int32) (fPend : Int32) (fGoes : Int32) (fOuts : Int32) (fReads : Int32) (fIR : Int32) (fCode : Int64) (fRL : Int64) (fRR : Int64) (fWrites : Int32) (fThrown : Int32) (vIn : Nat → Int32) (bb : Nat) (X : Nat) (is : List Nat) (t : Nat) (hb1 : 1 ≤ bb) (hb2 : bb ≤ 9) (hrd : ¬ fReads = 0) (hX0 : 512 ≤ X) (hX1 : X < 1024) (hIn : gIs vIn is) (hlen : is.length ≤ 6000) (hoct : oct is) (hq : t < 700000) (hs9 : bbN is t bb < 2147483648) : MetI l y_M_getBits (Cond.code y_M_getBits prog_14_method_57_code 3 (some .int) :: gw) ({ frames := 2, cells := 0, slots := 0, locals := 46 } : Room) (dC, dI) vwCl (kT cI cM cO) [Value.ref o, Value.int (nI bb)] [(o, Sum.inr (9, mO g 4 fShift fModels fItems fEnded fLow fRange fCache fPend fGoes fOuts (nI is.length) fReads 0 fIR (nI ((t + 7) / 8)) (nI t) fCode fRL fRR (lN X) fWrites fThrown)), ((g 8), Sum.inl (cI, 6000, Sum.inl vIn))] sz (fun (r : Int32) (u : Int32) => r = nI (bbN is t bb)) (fun (u : Int32) => [(o, Sum.inr (9, mO g 4 fShift fModels fItems fEnded fLow fRange fCache fPend fGoes fOuts (nI is.length) fReads 0 u (nI ((t + bb + 7) / 8)) (nI (t + bb)) fCode fRL fRR (lN X) fWrites 0)), ((g 8), Sum.inl (cI, 6000, Sum.inl vIn))]) 0 0 := by
  refine my_ofI (cc := prog_14_method_57_code) (n := 3) (ret := (some .int)) (by decide) rfl (Nat.le_of_ble_eq_true rfl) ?_
  intro p e s m args below meth c R Q A ls H locs hx hb hr hts hown hlocks hml hnm hR hQ hA hl hP hK hN hD hS
  have hg : ∀ w ∈ gw, w.before args s = true := fun w h => hts w (List.mem_cons_of_mem _ h)
  have hown : s.vm.findClass "RangeCodersModel" = some m.cls := hown
  have hl : lv_has ls 3 [(0, Value.ref o), (1, Value.int (nI bb))] := hl
  refine lv_aload_n hx hb d_M_getBits_0 rfl (lv_at hl 0 rfl) ?_
  refine lv_iconst (v := 0) hx hb d_M_getBits_1 (by decide) ?_
  refine va_put (D := (dC, dI)) (ci := 9) (v := .int 0) (ty := .int) (C := "RangeCodersModel") (T := T_M) (N := 35) hx hb hg in_M t_M o_M n_M hown hK hP hD hS 0 rfl rfl 34 (by decide) (hg _ k986) (fun _ h9 => h9) rfl (o_M 34 (by decide)) rfl rfl (Nat.le_of_ble_eq_true rfl) d_M_getBits_2 (fun H locs hP hD hS => ?_)
  have hPD : my_PD (dC, dI) vwCl A [(o, Sum.inr (9, mO g 4 fShift fModels fItems fEnded fLow fRange fCache fPend fGoes fOuts (nI is.length) fReads 0 fIR (nI ((t + 7) / 8)) (nI t) fCode fRL fRR (lN X) fWrites 0)), ((g 8), Sum.inl (cI, 6000, Sum.inl vIn))] H := ⟨hP, hD⟩
  have hP := hPD.1
  have hD := hPD.2
  refine lv_iload_n hx hb d_M_getBits_5 rfl (lv_at hl 1 rfl) ?_
  refine lv_iconst (v := 1) hx hb d_M_getBits_6 (by decide) ?_
  refine lv_aload_n hx hb d_M_getBits_7 rfl (lv_at hl 0 rfl) ?_
  refine va_get (D := (dC, dI)) (ci := 9) (v := .int 4) (C := "RangeCodersModel") (T := T_M) (N := 35) hx hb hg in_M hown hK hP 0 rfl rfl 0 (by decide) (hg _ k952) (fun _ h9 => h9) rfl d_M_getBits_8 ?_
  refine lv_iconst (v := 4) hx hb d_M_getBits_11 (by decide) ?_
  refine lv_icmp_ne (tgt := 20) hx hb d_M_getBits_12 (by decide) (fun c_1 => ?_) (fun c_1 => ?_)
  · exact absurd rfl c_1
  · refine lv_bipush (v := 9) hx hb d_M_getBits_15 (by decide) ?_
    refine lv_goto (tgt := 22) hx hb d_M_getBits_17 (by decide) ?_
    refine my_ci (wr := [(o, Sum.inr (9, mO g 4 fShift fModels fItems fEnded fLow fRange fCache fPend fGoes fOuts (nI is.length) fReads 0 fIR (nI ((t + 7) / 8)) (nI t) fCode fRL fRR (lN X) fWrites 0)), ((g 8), Sum.inl (cI, 6000, Sum.inl vIn))]) (va_runS (As := [Value.int (nI bb), Value.int 1, Value.int 9]) (rest := []) ⟨hx, hb, hml, hown, hts⟩ (c_M_in l dC dI cI cM cO H.size (nI bb) 1 9) (cwS 3 hts (my_gS k1062 k1063 k12 k1064) rfl rfl rfl (by decide +kernel) ⟨by rw [hR]; exact Nat.le_of_ble_eq_true rfl, by rw [hR]; exact Nat.le_of_ble_eq_true rfl⟩) (my_pre hK hN (hP.sub [] rfl) (hD.sub [] (by decide +kernel) rfl)) rfl rfl hl.1 rfl (lv_room (Nat.le_of_ble_eq_true rfl)) d_M_getBits_22 ⟨by rw [hR]; exact Nat.le_of_ble_eq_true rfl, by rw [hR]; exact Nat.le_of_ble_eq_true rfl⟩) hP hD hS hA [] [0, 1] rfl rfl (by decide +kernel) (by decide +kernel) (fun r_22 u9 H locs hw_22 hP hD hS => ?_)
    have hw_22 : r_22 = if 1 ≤ (nI bb) ∧ (nI bb) ≤ 9 then 1 else 0 := hw_22
    have hPD : my_PD (dC, dI) vwCl A [(o, Sum.inr (9, mO g 4 fShift fModels fItems fEnded fLow fRange fCache fPend fGoes fOuts (nI is.length) fReads 0 fIR (nI ((t + 7) / 8)) (nI t) fCode fRL fRR (lN X) fWrites 0)), ((g 8), Sum.inl (cI, 6000, Sum.inl vIn))] H := ⟨hP, hD⟩
    have hP := hPD.1
    have hD := hPD.2
    refine lv_if_ne (tgt := 31) hx hb d_M_getBits_25 (by decide) (fun c_2 => ?_) (fun c_2 => ?_)
    · refine lv_aload_n hx hb d_M_getBits_31 rfl (lv_at hl 0 rfl) ?_
      refine va_get (D := (dC, dI)) (ci := 9) (v := .int fReads) (C := "RangeCodersModel") (T := T_M) (N := 35) hx hb hg in_M hown hK hP 0 rfl rfl 21 (by decide) (hg _ k973) (fun _ h9 => h9) rfl d_M_getBits_32 ?_
      refine lv_if_ne (tgt := 41) hx hb d_M_getBits_35 (by decide) (fun c_3 => ?_) (fun c_3 => ?_)
      · refine lv_aload_n hx hb d_M_getBits_41 rfl (lv_at hl 0 rfl) ?_
        refine va_get (D := (dC, dI)) (ci := 9) (v := .int 0) (C := "RangeCodersModel") (T := T_M) (N := 35) hx hb hg in_M hown hK hP 0 rfl rfl 22 (by decide) (hg _ k974) (fun _ h9 => h9) rfl d_M_getBits_42 ?_
        refine lv_if_eq (tgt := 51) hx hb d_M_getBits_45 (by decide) (fun c_4 => ?_) (fun c_4 => ?_)
        · refine lv_aload_n hx hb d_M_getBits_51 rfl (lv_at hl 0 rfl) ?_
          refine lv_iload_n hx hb d_M_getBits_52 rfl (lv_at hl 1 rfl) ?_
          refine my_ci (wr := []) (va_runV (As := [Value.int (nI bb)]) (rest := []) ⟨hx, hb, hml, hown, hts⟩ (c_M_valueOf4 l dC dI cI cM cO H.size o g fShift fModels fItems fEnded fLow fRange fCache fPend fGoes fOuts fReads 0 fIR fCode fRL fRR (lN X) fWrites 0 vIn bb t is (hb1) (hb2) (hIn) (hlen) (hoct) (by omega)) (cwV 1 hts (my_gV k1260 k1262 ks59 k12 k1263) rfl rfl rfl cu_M_valueOf_1 ⟨by rw [hR]; exact Nat.le_of_ble_eq_true rfl, by rw [hR]; exact Nat.le_of_ble_eq_true rfl⟩) (my_preV hK hN (hP.sub [0, 1] rfl) (hD.sub [0, 1] (by decide +kernel) rfl) 0 rfl rfl) rfl rfl hl.1 rfl (lv_room (Nat.le_of_ble_eq_true rfl)) d_M_getBits_53 ⟨by rw [hR]; exact Nat.le_of_ble_eq_true rfl, by rw [hR]; exact Nat.le_of_ble_eq_true rfl⟩) hP hD hS hA [0, 1] [] rfl rfl (by decide +kernel) (by decide +kernel) (fun r_53 u9 H locs hw_53 hP hD hS => ?_)
          have hw_53 : r_53 = nI (bbN is t bb) := hw_53
          have hPD : my_PD (dC, dI) vwCl A [(o, Sum.inr (9, mO g 4 fShift fModels fItems fEnded fLow fRange fCache fPend fGoes fOuts (nI is.length) fReads 0 fIR (nI ((t + bb + 7) / 8)) (nI (t + bb)) fCode fRL fRR (lN X) fWrites 0)), ((g 8), Sum.inl (cI, 6000, Sum.inl vIn))] H := ⟨hP, hD⟩
          have hP := hPD.1
          have hD := hPD.2
          refine lv_istore_n (lv' := [(2, Value.int r_53), (0, Value.ref o), (1, Value.int (nI bb))]) hx hb d_M_getBits_56 rfl hl (by decide) rfl (fun ls hl => ?_)
          have hr8 : r_53 = nI (bbN is t bb) := hw_53
          refine lv_iload_n hx hb d_M_getBits_57 rfl (lv_at hl 0 rfl) ?_
          refine lv_if_ge (tgt := 66) hx hb d_M_getBits_58 (by decide) (fun c_5 => ?_) (fun c_5 => ?_)
          · refine lv_aload_n hx hb d_M_getBits_66 rfl (lv_at hl 1 rfl) ?_
            refine lv_dup hx hb d_M_getBits_67 rfl ?_
            refine va_get (D := (dC, dI)) (ci := 9) (v := .int fIR) (C := "RangeCodersModel") (T := T_M) (N := 35) hx hb hg in_M hown hK hP 0 rfl rfl 23 (by decide) (hg _ k975) (fun _ h9 => h9) rfl d_M_getBits_68 ?_
            refine lv_iconst (v := 1) hx hb d_M_getBits_71 (by decide) ?_
            refine lv_iadd hx hb d_M_getBits_72 ?_
            refine lv_topi (fun v_6 ev_6 => ?_)
            refine va_put (D := (dC, dI)) (ci := 9) (v := .int v_6) (ty := .int) (C := "RangeCodersModel") (T := T_M) (N := 35) hx hb hg in_M t_M o_M n_M hown hK hP hD hS 0 rfl rfl 23 (by decide) (hg _ k975) (fun _ h9 => h9) rfl (o_M 23 (by decide)) rfl rfl (Nat.le_of_ble_eq_true rfl) d_M_getBits_73 (fun H locs hP hD hS => ?_)
            have hPD : my_PD (dC, dI) vwCl A [(o, Sum.inr (9, mO g 4 fShift fModels fItems fEnded fLow fRange fCache fPend fGoes fOuts (nI is.length) fReads 0 v_6 (nI ((t + bb + 7) / 8)) (nI (t + bb)) fCode fRL fRR (lN X) fWrites 0)), ((g 8), Sum.inl (cI, 6000, Sum.inl vIn))] H := ⟨hP, hD⟩
            have hP := hPD.1
            have hD := hPD.2
            refine lv_iload_n hx hb d_M_getBits_76 rfl (lv_at hl 0 rfl) ?_
            exact my_iret (v := r_53) hx hb hr (rfl) hlocks hQ hK hS (Nat.le_refl _) (Nat.le_refl _) (v_6) (hr8) (hP.sub [0, 1] rfl) (hD.sub [0, 1] (by decide +kernel) rfl) d_M_getBits_77
          · exact absurd (by rw [hr8]; exact nI_pos' hs9) c_5
        · exact absurd (by decide) c_4
      · exact absurd c_3 hrd
    · exact absurd (show 1 ≤ nI bb ∧ nI bb ≤ nI 9 from ⟨nI_le (a := 1) hb1 (by omega), nI_le hb2 (by decide)⟩) (one_eq hw_22 c_2)
end
