set_option maxHeartbeats 2000000 in
set_option maxRecDepth 100000 in
theorem f_Odds_hasCell (l : Launch) (dC : Nat → ClassId) (dI : Nat → Nat → Nat) (cI cM cO : ClassId) (sz : Nat) (oo : Nat) (osg : Int32) (ofc : Int32) (oca : Nat) (opa : Nat) (n : Nat) (ocf : Nat → Int32) (opl : Nat) (opf : Nat → Int32) (osm : Int32) (t : Nat) (hn : n ≤ 64) (hpl : opl ≤ 512) (ht : t < n) (hfc : ofc ≤ nI t) : MetI l y_Odds_hasCell (Cond.code y_Odds_hasCell prog_7_method_2_code 2 (some .boolean) :: gw) ({ frames := 0, cells := 0, slots := 0, locals := 0 } : Room) (dC, dI) vwCl (kT cI cM cO) [Value.ref oo, Value.int (nI t)] [(oo, Sum.inr (7, [Value.int osg, Value.int osm, Value.int ofc, Value.ref oca, Value.ref opa])), (oca, Sum.inl (cI, n, Sum.inl ocf)), (opa, Sum.inl (cI, opl, Sum.inl opf))] sz (fun (r : Int32) (u : Unit) => r = 1) (fun (u : Unit) => [(oo, Sum.inr (7, [Value.int osg, Value.int osm, Value.int ofc, Value.ref oca, Value.ref opa])), (oca, Sum.inl (cI, n, Sum.inl ocf)), (opa, Sum.inl (cI, opl, Sum.inl opf))]) 0 0 := by
  refine my_ofI (cc := prog_7_method_2_code) (n := 2) (ret := (some .boolean)) (by decide) rfl (Nat.le_of_ble_eq_true rfl) ?_
  intro p e s m args below meth c R Q A ls H locs hx hb hr hts hown hlocks hml hnm hR hQ hA hl hP hK hN hD hS
  have hg : ∀ w ∈ gw, w.before args s = true := fun w h => hts w (List.mem_cons_of_mem _ h)
  have hown : s.vm.findClass "RangeCoders$Odds" = some m.cls := hown
  have hl : lv_has ls 2 [(0, Value.ref oo), (1, Value.int (nI t))] := hl
  refine lv_iload_n hx hb d_Odds_hasCell_0 rfl (lv_at hl 1 rfl) ?_
  refine lv_aload_n hx hb d_Odds_hasCell_1 rfl (lv_at hl 0 rfl) ?_
  refine va_get (D := (dC, dI)) (ci := 7) (v := .int ofc) (C := "RangeCoders$Odds") (T := T_Odds) (N := 5) hx hb hg in_Odds hown hK hP 0 rfl rfl 2 (by decide) (hg _ k308) (fun _ h9 => h9) rfl d_Odds_hasCell_2 ?_
  refine lv_icmp_lt (tgt := 25) hx hb d_Odds_hasCell_5 (by decide) (fun c_1 => ?_) (fun c_1 => ?_)
  · exact absurd hfc (Int32.not_le.mpr c_1)
  · refine lv_iload_n hx hb d_Odds_hasCell_8 rfl (lv_at hl 1 rfl) ?_
    refine lv_if_lt (tgt := 25) hx hb d_Odds_hasCell_9 (by decide) (fun c_2 => ?_) (fun c_2 => ?_)
    · exact absurd c_2 (nI_pos (by omega))
    · refine lv_iload_n hx hb d_Odds_hasCell_12 rfl (lv_at hl 1 rfl) ?_
      refine lv_aload_n hx hb d_Odds_hasCell_13 rfl (lv_at hl 0 rfl) ?_
      refine va_get (D := (dC, dI)) (ci := 7) (v := .ref oca) (C := "RangeCoders$Odds") (T := T_Odds) (N := 5) hx hb hg in_Odds hown hK hP 0 rfl rfl 3 (by decide) (hg _ k309) (fun _ h9 => h9) rfl d_Odds_hasCell_14 ?_
      refine va_alen hx hb hK hP 1 0 rfl rfl (v := nI n) rfl d_Odds_hasCell_17 ?_
      refine lv_icmp_ge (tgt := 25) hx hb d_Odds_hasCell_18 (by decide) (fun c_3 => ?_) (fun c_3 => ?_)
      · exact absurd c_3 (nI_ge ht (by omega))
      · refine lv_iconst (v := 1) hx hb d_Odds_hasCell_21 (by decide) ?_
        refine lv_goto (tgt := 26) hx hb d_Odds_hasCell_22 (by decide) ?_
        exact my_iret (v := 1) hx hb hr (rfl) hlocks hQ hK hS (Nat.le_refl _) (Nat.le_refl _) () (rfl) (hP.sub [0, 1, 2] rfl) (hD.sub [0, 1, 2] (by decide +kernel) rfl) d_Odds_hasCell_26
set_option maxHeartbeats 2000000 in
set_option maxRecDepth 100000 in
theorem f_Odds_at (l : Launch) (dC : Nat → ClassId) (dI : Nat → Nat → Nat) (cI cM cO : ClassId) (sz : Nat) (oo : Nat) (osg : Int32) (ofc : Int32) (oca : Nat) (opa : Nat) (n : Nat) (ocf : Nat → Int32) (opl : Nat) (opf : Nat → Int32) (osm : Int32) (t : Nat) (hn : n ≤ 64) (hpl : opl ≤ 512) (ht : t < n) (hfc : ofc ≤ nI t) : MetI l y_Odds_at (Cond.code y_Odds_at prog_7_method_3_code 2 (some .int) :: gw) ({ frames := 1, cells := 0, slots := 0, locals := 21 } : Room) (dC, dI) vwCl (kT cI cM cO) [Value.ref oo, Value.int (nI t)] [(oo, Sum.inr (7, [Value.int osg, Value.int osm, Value.int ofc, Value.ref oca, Value.ref opa])), (oca, Sum.inl (cI, n, Sum.inl ocf)), (opa, Sum.inl (cI, opl, Sum.inl opf))] sz (fun (r : Int32) (u : Unit) => r = ocf t) (fun (u : Unit) => [(oo, Sum.inr (7, [Value.int osg, Value.int osm, Value.int ofc, Value.ref oca, Value.ref opa])), (oca, Sum.inl (cI, n, Sum.inl ocf)), (opa, Sum.inl (cI, opl, Sum.inl opf))]) 0 0 := by
  refine my_ofI (cc := prog_7_method_3_code) (n := 2) (ret := (some .int)) (by decide) rfl (Nat.le_of_ble_eq_true rfl) ?_
  intro p e s m args below meth c R Q A ls H locs hx hb hr hts hown hlocks hml hnm hR hQ hA hl hP hK hN hD hS
  have hg : ∀ w ∈ gw, w.before args s = true := fun w h => hts w (List.mem_cons_of_mem _ h)
  have hown : s.vm.findClass "RangeCoders$Odds" = some m.cls := hown
  have hl : lv_has ls 2 [(0, Value.ref oo), (1, Value.int (nI t))] := hl
  refine lv_aload_n hx hb d_Odds_at_0 rfl (lv_at hl 0 rfl) ?_
  refine lv_iload_n hx hb d_Odds_at_1 rfl (lv_at hl 1 rfl) ?_
  refine my_ci (wr := []) (va_runV (As := [Value.int (nI t)]) (rest := []) ⟨hx, hb, hml, hown, hts⟩ (f_Odds_hasCell l dC dI cI cM cO H.size oo osg ofc oca opa n ocf opl opf osm t (by first | assumption | omega) (by first | assumption | omega) (by first | assumption | omega) (by first | assumption | omega)) (cwV 1 hts (my_gV k396 k397 k398 k14 k399) rfl rfl rfl (by decide +kernel) ⟨by rw [hR]; exact Nat.le_of_ble_eq_true rfl, by rw [hR]; exact Nat.le_of_ble_eq_true rfl⟩) (my_preV hK hN (hP.sub [0, 1, 2] rfl) (hD.sub [0, 1, 2] (by decide +kernel) rfl) 0 rfl rfl) rfl rfl hl.1 rfl (lv_room (Nat.le_of_ble_eq_true rfl)) d_Odds_at_2 ⟨by rw [hR]; exact Nat.le_of_ble_eq_true rfl, by rw [hR]; exact Nat.le_of_ble_eq_true rfl⟩) hP hD hS hA [0, 1, 2] [] rfl rfl (by decide +kernel) (by decide +kernel) (fun r_2 u9 H locs hw_2 hP hD hS => ?_)
  have hr_2 : r_2 = 1 := hw_2
  have hP : va_P (dC, dI) vwCl [(oo, Sum.inr (7, [Value.int osg, Value.int osm, Value.int ofc, Value.ref oca, Value.ref opa])), (oca, Sum.inl (cI, n, Sum.inl ocf)), (opa, Sum.inl (cI, opl, Sum.inl opf))] H := hP
  have hD : va_D A [(oo, Sum.inr (7, [Value.int osg, Value.int osm, Value.int ofc, Value.ref oca, Value.ref opa])), (oca, Sum.inl (cI, n, Sum.inl ocf)), (opa, Sum.inl (cI, opl, Sum.inl opf))] := hD
  refine lv_if_eq (tgt := 17) hx hb d_Odds_at_5 (by decide) (fun c_1 => ?_) (fun c_1 => ?_)
  · exact absurd (hr_2.symm.trans c_1) (by decide)
  · refine lv_aload_n hx hb d_Odds_at_8 rfl (lv_at hl 0 rfl) ?_
    refine va_get (D := (dC, dI)) (ci := 7) (v := .ref oca) (C := "RangeCoders$Odds") (T := T_Odds) (N := 5) hx hb hg in_Odds hown hK hP 0 rfl rfl 3 (by decide) (hg _ k309) (fun _ h9 => h9) rfl d_Odds_at_9 ?_
    refine lv_iload_n hx hb d_Odds_at_12 rfl (lv_at hl 1 rfl) ?_
    refine va_iald hx hb hK hP 1 0 rfl rfl (vp_in_nI ht (by omega)) d_Odds_at_13 ?_
    refine lv_topi (fun v_2 ev_2 => ?_)
    refine lv_goto (tgt := 18) hx hb d_Odds_at_14 (by decide) ?_
    exact my_iret (v := v_2) hx hb hr (rfl) hlocks hQ hK hS (Nat.le_refl _) (Nat.le_refl _) () (by rw [ev_2, nI_clamp (by omega)]) (hP.sub [0, 1, 2] rfl) (hD.sub [0, 1, 2] (by decide +kernel) rfl) d_Odds_at_18
set_option maxHeartbeats 2000000 in
set_option maxRecDepth 100000 in
theorem f_Odds_grow (l : Launch) (dC : Nat → ClassId) (dI : Nat → Nat → Nat) (cI cM cO : ClassId) (sz : Nat) (oo : Nat) (osg : Int32) (ofc : Int32) (oca : Nat) (opa : Nat) (n : Nat) (ocf : Nat → Int32) (opl : Nat) (opf : Nat → Int32) (osm : Int32) (t : Nat) (vv : Int32) (hn : n ≤ 64) (hpl : opl ≤ 512) (ht : t < n) (hfc : ofc ≤ nI t) : MetV l y_Odds_grow (Cond.code y_Odds_grow prog_7_method_4_code 3 none :: gw) ({ frames := 1, cells := 0, slots := 0, locals := 21 } : Room) (dC, dI) vwCl (kT cI cM cO) [Value.ref oo, Value.int (nI t), Value.int vv] [(oo, Sum.inr (7, [Value.int osg, Value.int osm, Value.int ofc, Value.ref oca, Value.ref opa])), (oca, Sum.inl (cI, n, Sum.inl ocf)), (opa, Sum.inl (cI, opl, Sum.inl opf))] sz (fun (u : (Nat → Int32)) => u = upd ocf t (ocf t + vv)) (fun (u : (Nat → Int32)) => [(oo, Sum.inr (7, [Value.int osg, Value.int (osm + vv), Value.int ofc, Value.ref oca, Value.ref opa])), (oca, Sum.inl (cI, n, Sum.inl u)), (opa, Sum.inl (cI, opl, Sum.inl opf))]) 0 0 := by
  refine my_ofV (cc := prog_7_method_4_code) (n := 3) (ret := none) (by decide) rfl (Nat.le_of_ble_eq_true rfl) ?_
  intro p e s m args below meth c R Q A ls H locs hx hb hr hts hown hlocks hml hnm hR hQ hA hl hP hK hN hD hS
  have hg : ∀ w ∈ gw, w.before args s = true := fun w h => hts w (List.mem_cons_of_mem _ h)
  have hown : s.vm.findClass "RangeCoders$Odds" = some m.cls := hown
  have hl : lv_has ls 3 [(0, Value.ref oo), (1, Value.int (nI t)), (2, Value.int vv)] := hl
  refine lv_aload_n hx hb d_Odds_grow_0 rfl (lv_at hl 0 rfl) ?_
  refine lv_iload_n hx hb d_Odds_grow_1 rfl (lv_at hl 1 rfl) ?_
  refine my_ci (wr := []) (va_runV (As := [Value.int (nI t)]) (rest := []) ⟨hx, hb, hml, hown, hts⟩ (f_Odds_hasCell l dC dI cI cM cO H.size oo osg ofc oca opa n ocf opl opf osm t (by first | assumption | omega) (by first | assumption | omega) (by first | assumption | omega) (by first | assumption | omega)) (cwV 1 hts (my_gV k396 k397 k398 k14 k399) rfl rfl rfl (by decide +kernel) ⟨by rw [hR]; exact Nat.le_of_ble_eq_true rfl, by rw [hR]; exact Nat.le_of_ble_eq_true rfl⟩) (my_preV hK hN (hP.sub [0, 1, 2] rfl) (hD.sub [0, 1, 2] (by decide +kernel) rfl) 0 rfl rfl) rfl rfl hl.1 rfl (lv_room (Nat.le_of_ble_eq_true rfl)) d_Odds_grow_2 ⟨by rw [hR]; exact Nat.le_of_ble_eq_true rfl, by rw [hR]; exact Nat.le_of_ble_eq_true rfl⟩) hP hD hS hA [0, 1, 2] [] rfl rfl (by decide +kernel) (by decide +kernel) (fun r_2 u9 H locs hw_2 hP hD hS => ?_)
  have hr_2 : r_2 = 1 := hw_2
  have hP : va_P (dC, dI) vwCl [(oo, Sum.inr (7, [Value.int osg, Value.int osm, Value.int ofc, Value.ref oca, Value.ref opa])), (oca, Sum.inl (cI, n, Sum.inl ocf)), (opa, Sum.inl (cI, opl, Sum.inl opf))] H := hP
  have hD : va_D A [(oo, Sum.inr (7, [Value.int osg, Value.int osm, Value.int ofc, Value.ref oca, Value.ref opa])), (oca, Sum.inl (cI, n, Sum.inl ocf)), (opa, Sum.inl (cI, opl, Sum.inl opf))] := hD
  refine lv_if_eq (tgt := 28) hx hb d_Odds_grow_5 (by decide) (fun c_1 => ?_) (fun c_1 => ?_)
  · exact absurd (hr_2.symm.trans c_1) (by decide)
  · refine lv_aload_n hx hb d_Odds_grow_8 rfl (lv_at hl 0 rfl) ?_
    refine va_get (D := (dC, dI)) (ci := 7) (v := .ref oca) (C := "RangeCoders$Odds") (T := T_Odds) (N := 5) hx hb hg in_Odds hown hK hP 0 rfl rfl 3 (by decide) (hg _ k309) (fun _ h9 => h9) rfl d_Odds_grow_9 ?_
    refine lv_iload_n hx hb d_Odds_grow_12 rfl (lv_at hl 1 rfl) ?_
    refine lv_dup2_11 hx hb d_Odds_grow_13 rfl rfl ?_
    refine va_iald hx hb hK hP 1 0 rfl rfl (vp_in_nI ht (by omega)) d_Odds_grow_14 ?_
    refine lv_topi (fun v_2 ev_2 => ?_)
    refine lv_iload_n hx hb d_Odds_grow_15 rfl (lv_at hl 2 rfl) ?_
    refine lv_iadd hx hb d_Odds_grow_16 ?_
    refine lv_topi (fun v_3 ev_3 => ?_)
    have z9 : v_3 = ocf t + vv := by subst_vars; rw [nI_clamp (by omega)]
    subst z9
    refine va_iast hx hb hK hP hD hS 1 0 rfl rfl (vp_in_nI ht (by omega)) d_Odds_grow_17 (fun H locs hP hD hS => ?_)
    have hP : va_P (dC, dI) vwCl [(oo, Sum.inr (7, [Value.int osg, Value.int osm, Value.int ofc, Value.ref oca, Value.ref opa])), (oca, Sum.inl (cI, n, Sum.inl (upd ocf (nI t).toNatClampNeg (ocf t + vv)))), (opa, Sum.inl (cI, opl, Sum.inl opf))] H := hP
    have hD : va_D A [(oo, Sum.inr (7, [Value.int osg, Value.int osm, Value.int ofc, Value.ref oca, Value.ref opa])), (oca, Sum.inl (cI, n, Sum.inl (upd ocf (nI t).toNatClampNeg (ocf t + vv)))), (opa, Sum.inl (cI, opl, Sum.inl opf))] := hD
    refine lv_aload_n hx hb d_Odds_grow_18 rfl (lv_at hl 0 rfl) ?_
    refine lv_dup hx hb d_Odds_grow_19 rfl ?_
    refine va_get (D := (dC, dI)) (ci := 7) (v := .int osm) (C := "RangeCoders$Odds") (T := T_Odds) (N := 5) hx hb hg in_Odds hown hK hP 0 rfl rfl 1 (by decide) (hg _ k305) (fun _ h9 => h9) rfl d_Odds_grow_20 ?_
    refine lv_iload_n hx hb d_Odds_grow_23 rfl (lv_at hl 2 rfl) ?_
    refine lv_iadd hx hb d_Odds_grow_24 ?_
    refine lv_topi (fun v_4 ev_4 => ?_)
    have z9 : v_4 = osm + vv := ev_4
    subst z9
    refine va_put (D := (dC, dI)) (ci := 7) (v := .int (osm + vv)) (ty := .int) (C := "RangeCoders$Odds") (T := T_Odds) (N := 5) hx hb hg in_Odds t_Odds o_Odds n_Odds hown hK hP hD hS 0 rfl rfl 1 (by decide) (hg _ k305) (fun _ h9 => h9) rfl (by decide +kernel) rfl rfl (Nat.le_of_ble_eq_true rfl) d_Odds_grow_25 (fun H locs hP hD hS => ?_)
    have hP : va_P (dC, dI) vwCl [(oo, Sum.inr (7, [Value.int osg, Value.int (osm + vv), Value.int ofc, Value.ref oca, Value.ref opa])), (oca, Sum.inl (cI, n, Sum.inl (upd ocf (nI t).toNatClampNeg (ocf t + vv)))), (opa, Sum.inl (cI, opl, Sum.inl opf))] H := hP
    have hD : va_D A [(oo, Sum.inr (7, [Value.int osg, Value.int (osm + vv), Value.int ofc, Value.ref oca, Value.ref opa])), (oca, Sum.inl (cI, n, Sum.inl (upd ocf (nI t).toNatClampNeg (ocf t + vv)))), (opa, Sum.inl (cI, opl, Sum.inl opf))] := hD
    exact my_vret hx hb hr hlocks hQ hK hS (Nat.le_refl _) (Nat.le_refl _) (upd ocf (nI t).toNatClampNeg (ocf t + vv)) (by rw [nI_clamp (by omega)]) (hP.sub [0, 1, 2] rfl) (hD.sub [0, 1, 2] (by decide +kernel) rfl) d_Odds_grow_28
set_option maxHeartbeats 2000000 in
set_option maxRecDepth 100000 in
theorem f_Odds_fill (l : Launch) (dC : Nat → ClassId) (dI : Nat → Nat → Nat) (cI cM cO : ClassId) (sz : Nat) (oo : Nat) (osg : Int32) (ofc : Int32) (oca : Nat) (opa : Nat) (n : Nat) (ocf : Nat → Int32) (opl : Nat) (opf : Nat → Int32) (osm : Int32) (vn : Nat) (hn : n ≤ 64) (hpl : opl ≤ 512) : MetV l y_Odds_fill (Cond.code y_Odds_fill prog_7_method_5_code 2 none :: gw) ({ frames := 1, cells := 0, slots := 0, locals := 23 } : Room) (dC, dI) vwCl (kT cI cM cO) [Value.ref oo, Value.int (nI vn)] [(oo, Sum.inr (7, [Value.int osg, Value.int osm, Value.int ofc, Value.ref oca, Value.ref opa])), (oca, Sum.inl (cI, n, Sum.inl ocf)), (opa, Sum.inl (cI, opl, Sum.inl opf))] sz (fun (u : (Nat → Int32)) => tbI u n (fun _ => vn)) (fun (u : (Nat → Int32)) => [(oo, Sum.inr (7, [Value.int osg, Value.int (nI (vn * n)), Value.int ofc, Value.ref oca, Value.ref opa])), (oca, Sum.inl (cI, n, Sum.inl u)), (opa, Sum.inl (cI, opl, Sum.inl opf))]) 0 0 := by
  refine my_ofV (cc := prog_7_method_5_code) (n := 2) (ret := none) (by decide) rfl (Nat.le_of_ble_eq_true rfl) ?_
  intro p e s m args below meth c R Q A ls H locs hx hb hr hts hown hlocks hml hnm hR hQ hA hl hP hK hN hD hS
  have hg : ∀ w ∈ gw, w.before args s = true := fun w h => hts w (List.mem_cons_of_mem _ h)
  have hown : s.vm.findClass "RangeCoders$Odds" = some m.cls := hown
  have hl : lv_has ls 2 [(0, Value.ref oo), (1, Value.int (nI vn))] := hl
  refine lv_aload_n hx hb d_Odds_fill_0 rfl (lv_at hl 0 rfl) ?_
  refine va_get (D := (dC, dI)) (ci := 7) (v := .ref oca) (C := "RangeCoders$Odds") (T := T_Odds) (N := 5) hx hb hg in_Odds hown hK hP 0 rfl rfl 3 (by decide) (hg _ k309) (fun _ h9 => h9) rfl d_Odds_fill_1 ?_
  refine lv_iload_n hx hb d_Odds_fill_4 rfl (lv_at hl 1 rfl) ?_
  refine my_cv (wr := [(oo, Sum.inr (7, [Value.int osg, Value.int osm, Value.int ofc, Value.ref oca, Value.ref opa])), (opa, Sum.inl (cI, opl, Sum.inl opf))]) (va_runS (As := [Value.ref oca, Value.int (nI vn)]) (rest := []) ⟨hx, hb, hml, hown, hts⟩ (f_Arrays_fill l dC dI cI cM cO H.size oca n ocf vn (by omega)) (my_cwS2 2 hts (my_gC k339) rfl rfl rfl (hg _ k15) (hg _ k363) (hg _ k338) (by decide +kernel) ⟨by rw [hR]; exact Nat.le_of_ble_eq_true rfl, by rw [hR]; exact Nat.le_of_ble_eq_true rfl⟩) (my_pre hK hN (hP.sub [1] rfl) (hD.sub [1] (by decide +kernel) rfl)) rfl rfl hl.1 rfl (lv_room (Nat.le_of_ble_eq_true rfl)) d_Odds_fill_5 ⟨by rw [hR]; exact Nat.le_of_ble_eq_true rfl, by rw [hR]; exact Nat.le_of_ble_eq_true rfl⟩) hP hD hS hA [1] [0, 2] rfl rfl (by decide +kernel) (by decide +kernel) (fun u9 H locs hw_5 hP hD hS => ?_)
  obtain ⟨afq_5, rfl⟩ : ∃ z, z = u9 := ⟨_, rfl⟩
  have hf_5 : tbI afq_5 n (fun _ => vn) := hw_5
  have hP : va_P (dC, dI) vwCl [(oo, Sum.inr (7, [Value.int osg, Value.int osm, Value.int ofc, Value.ref oca, Value.ref opa])), (opa, Sum.inl (cI, opl, Sum.inl opf)), (oca, Sum.inl (cI, n, Sum.inl afq_5))] H := hP
  have hD : va_D A [(oo, Sum.inr (7, [Value.int osg, Value.int osm, Value.int ofc, Value.ref oca, Value.ref opa])), (opa, Sum.inl (cI, opl, Sum.inl opf)), (oca, Sum.inl (cI, n, Sum.inl afq_5))] := hD
  refine lv_aload_n hx hb d_Odds_fill_8 rfl (lv_at hl 0 rfl) ?_
  refine lv_iload_n hx hb d_Odds_fill_9 rfl (lv_at hl 1 rfl) ?_
  refine lv_aload_n hx hb d_Odds_fill_10 rfl (lv_at hl 0 rfl) ?_
  refine va_get (D := (dC, dI)) (ci := 7) (v := .ref oca) (C := "RangeCoders$Odds") (T := T_Odds) (N := 5) hx hb hg in_Odds hown hK hP 0 rfl rfl 3 (by decide) (hg _ k309) (fun _ h9 => h9) rfl d_Odds_fill_11 ?_
  refine va_alen hx hb hK hP 2 0 rfl rfl (v := nI n) rfl d_Odds_fill_14 ?_
  refine lv_imul hx hb d_Odds_fill_15 ?_
  refine lv_topi (fun v_1 ev_1 => ?_)
  have z9 : v_1 = nI (vn * n) := by rw [ev_1]; exact pk_mul _ _
  subst z9
  refine va_put (D := (dC, dI)) (ci := 7) (v := .int (nI (vn * n))) (ty := .int) (C := "RangeCoders$Odds") (T := T_Odds) (N := 5) hx hb hg in_Odds t_Odds o_Odds n_Odds hown hK hP hD hS 0 rfl rfl 1 (by decide) (hg _ k305) (fun _ h9 => h9) rfl (by decide +kernel) rfl rfl (Nat.le_of_ble_eq_true rfl) d_Odds_fill_16 (fun H locs hP hD hS => ?_)
  have hP : va_P (dC, dI) vwCl [(oo, Sum.inr (7, [Value.int osg, Value.int (nI (vn * n)), Value.int ofc, Value.ref oca, Value.ref opa])), (opa, Sum.inl (cI, opl, Sum.inl opf)), (oca, Sum.inl (cI, n, Sum.inl afq_5))] H := hP
  have hD : va_D A [(oo, Sum.inr (7, [Value.int osg, Value.int (nI (vn * n)), Value.int ofc, Value.ref oca, Value.ref opa])), (opa, Sum.inl (cI, opl, Sum.inl opf)), (oca, Sum.inl (cI, n, Sum.inl afq_5))] := hD
  exact my_vret hx hb hr hlocks hQ hK hS (Nat.le_refl _) (Nat.le_refl _) (afq_5) (hf_5) (hP.sub [0, 2, 1] rfl) (hD.sub [0, 2, 1] (by decide +kernel) rfl) d_Odds_fill_19
set_option maxHeartbeats 2000000 in
set_option maxRecDepth 100000 in
theorem f_Odds_copyCounts (l : Launch) (dC : Nat → ClassId) (dI : Nat → Nat → Nat) (cI cM cO : ClassId) (sz : Nat) (oo : Nat) (osg : Int32) (ofc : Int32) (oca : Nat) (opa : Nat) (n : Nat) (ocf : Nat → Int32) (opl : Nat) (opf : Nat → Int32) (osm : Int32) (ka : Nat) (kf : Nat → Int32) (C : Nat → Nat) (hn : n ≤ 64) (hpl : opl ≤ 512) (hk : tbI kf n C) (hB : bd C n 4095) : MetV l y_Odds_copyCounts (Cond.code y_Odds_copyCounts prog_7_method_15_code 3 none :: gw) ({ frames := 0, cells := 0, slots := 0, locals := 0 } : Room) (dC, dI) vwCl (kT cI cM cO) [Value.ref oo, Value.ref ka] [(oo, Sum.inr (7, [Value.int osg, Value.int osm, Value.int ofc, Value.ref oca, Value.ref opa])), (oca, Sum.inl (cI, n, Sum.inl ocf)), (opa, Sum.inl (cI, opl, Sum.inl opf)), (ka, Sum.inl (cI, n, Sum.inl kf))] sz (fun (u : (Nat → Int32)) => tbI u n C) (fun (u : (Nat → Int32)) => [(oo, Sum.inr (7, [Value.int osg, Value.int (nI (ns C n)), Value.int ofc, Value.ref oca, Value.ref opa])), (oca, Sum.inl (cI, n, Sum.inl u)), (opa, Sum.inl (cI, opl, Sum.inl opf)), (ka, Sum.inl (cI, n, Sum.inl kf))]) 0 0 := by
  refine my_ofV (cc := prog_7_method_15_code) (n := 3) (ret := none) (by decide) rfl (Nat.le_of_ble_eq_true rfl) ?_
  intro p e s m args below meth c R Q A ls H locs hx hb hr hts hown hlocks hml hnm hR hQ hA hl hP hK hN hD hS
  have hg : ∀ w ∈ gw, w.before args s = true := fun w h => hts w (List.mem_cons_of_mem _ h)
  have hown : s.vm.findClass "RangeCoders$Odds" = some m.cls := hown
  have hl : lv_has ls 3 [(0, Value.ref oo), (1, Value.ref ka)] := hl
  refine lv_aload_n hx hb d_Odds_copyCounts_0 rfl (lv_at hl 0 rfl) ?_
  refine lv_iconst (v := 0) hx hb d_Odds_copyCounts_1 (by decide) ?_
  refine va_put (D := (dC, dI)) (ci := 7) (v := .int 0) (ty := .int) (C := "RangeCoders$Odds") (T := T_Odds) (N := 5) hx hb hg in_Odds t_Odds o_Odds n_Odds hown hK hP hD hS 0 rfl rfl 1 (by decide) (hg _ k305) (fun _ h9 => h9) rfl (by decide +kernel) rfl rfl (Nat.le_of_ble_eq_true rfl) d_Odds_copyCounts_2 (fun H locs hP hD hS => ?_)
  have hP : va_P (dC, dI) vwCl [(oo, Sum.inr (7, [Value.int osg, Value.int 0, Value.int ofc, Value.ref oca, Value.ref opa])), (oca, Sum.inl (cI, n, Sum.inl ocf)), (opa, Sum.inl (cI, opl, Sum.inl opf)), (ka, Sum.inl (cI, n, Sum.inl kf))] H := hP
  have hD : va_D A [(oo, Sum.inr (7, [Value.int osg, Value.int 0, Value.int ofc, Value.ref oca, Value.ref opa])), (oca, Sum.inl (cI, n, Sum.inl ocf)), (opa, Sum.inl (cI, opl, Sum.inl opf)), (ka, Sum.inl (cI, n, Sum.inl kf))] := hD
  refine lv_iconst (v := 0) hx hb d_Odds_copyCounts_5 (by decide) ?_
  refine lv_istore_n (lv' := [(2, Value.int 0), (0, Value.ref oo), (1, Value.ref ka)]) hx hb d_Odds_copyCounts_6 rfl hl (by decide) rfl (fun ls hl => ?_)
  have J_7 : ∀ (n9_7 : Nat) (j : Nat) (fL : Nat → Int32) (hn9_7 : n - j = n9_7) (hj : j ≤ n) (hL : tbI fL j C) (H : Heap) (locs : List Loc) (ls : Array Slot), va_P (dC, dI) vwCl [(oo, Sum.inr (7, [Value.int osg, Value.int (nI (ns C j)), Value.int ofc, Value.ref oca, Value.ref opa])), (oca, Sum.inl (cI, n, Sum.inl fL)), (opa, Sum.inl (cI, opl, Sum.inl opf)), (ka, Sum.inl (cI, n, Sum.inl kf))] H → va_D A [(oo, Sum.inr (7, [Value.int osg, Value.int (nI (ns C j)), Value.int ofc, Value.ref oca, Value.ref opa])), (oca, Sum.inl (cI, n, Sum.inl fL)), (opa, Sum.inl (cI, opl, Sum.inl opf)), (ka, Sum.inl (cI, n, Sum.inl kf))] → va_S A s.heap H locs → lv_has ls 3 [(2, Value.int (nI j)), (0, Value.ref oo), (1, Value.ref ka)] → W p l e R s m args below meth c H locs 0 0 Q (F0 m 7 ls []) := by
    intro n9_7
    induction n9_7 using Nat.strongRecOn with
    | ind n9_7 ih9_7 =>
      intro j fL hn9_7 hj hL H locs ls hP hD hS hl
      refine lv_iload_n hx hb d_Odds_copyCounts_7 rfl (lv_at hl 0 rfl) ?_
      refine lv_aload_n hx hb d_Odds_copyCounts_8 rfl (lv_at hl 1 rfl) ?_
      refine va_get (D := (dC, dI)) (ci := 7) (v := .ref oca) (C := "RangeCoders$Odds") (T := T_Odds) (N := 5) hx hb hg in_Odds hown hK hP 0 rfl rfl 3 (by decide) (hg _ k309) (fun _ h9 => h9) rfl d_Odds_copyCounts_9 ?_
      refine va_alen hx hb hK hP 1 0 rfl rfl (v := nI n) rfl d_Odds_copyCounts_12 ?_
      refine lv_icmp_ge (tgt := 49) hx hb d_Odds_copyCounts_13 (by decide) (fun c_1 => ?_) (fun c_1 => ?_)
      · have hj3 : n = j := by have := nI_ge' (by omega) (by omega) c_1; omega
        subst hj3
        have hP : va_P (dC, dI) vwCl [(oo, Sum.inr (7, [Value.int osg, Value.int (nI (ns C n)), Value.int ofc, Value.ref oca, Value.ref opa])), (oca, Sum.inl (cI, n, Sum.inl fL)), (opa, Sum.inl (cI, opl, Sum.inl opf)), (ka, Sum.inl (cI, n, Sum.inl kf))] H := hP
        have hD : va_D A [(oo, Sum.inr (7, [Value.int osg, Value.int (nI (ns C n)), Value.int ofc, Value.ref oca, Value.ref opa])), (oca, Sum.inl (cI, n, Sum.inl fL)), (opa, Sum.inl (cI, opl, Sum.inl opf)), (ka, Sum.inl (cI, n, Sum.inl kf))] := hD
        exact my_vret hx hb hr hlocks hQ hK hS (Nat.le_refl _) (Nat.le_refl _) (fL) (hL) (hP.sub [0, 1, 2, 3] rfl) (hD.sub [0, 1, 2, 3] (by decide +kernel) rfl) d_Odds_copyCounts_49
      · have hj2 : j < n := nI_lt' (by omega) c_1
        refine lv_iload_n hx hb d_Odds_copyCounts_16 rfl (lv_at hl 0 rfl) ?_
        refine lv_aload_n hx hb d_Odds_copyCounts_17 rfl (lv_at hl 2 rfl) ?_
        refine va_alen hx hb hK hP 3 0 rfl rfl (v := nI n) rfl d_Odds_copyCounts_18 ?_
        refine lv_icmp_ge (tgt := 49) hx hb d_Odds_copyCounts_19 (by decide) (fun c_2 => ?_) (fun c_2 => ?_)
        · exact absurd c_2 (nI_ge hj2 (by omega))
        · refine lv_aload_n hx hb d_Odds_copyCounts_22 rfl (lv_at hl 1 rfl) ?_
          refine va_get (D := (dC, dI)) (ci := 7) (v := .ref oca) (C := "RangeCoders$Odds") (T := T_Odds) (N := 5) hx hb hg in_Odds hown hK hP 0 rfl rfl 3 (by decide) (hg _ k309) (fun _ h9 => h9) rfl d_Odds_copyCounts_23 ?_
          refine lv_iload_n hx hb d_Odds_copyCounts_26 rfl (lv_at hl 0 rfl) ?_
          refine lv_aload_n hx hb d_Odds_copyCounts_27 rfl (lv_at hl 2 rfl) ?_
          refine lv_iload_n hx hb d_Odds_copyCounts_28 rfl (lv_at hl 0 rfl) ?_
          refine va_iald hx hb hK hP 3 0 rfl rfl (vp_in_nI hj2 (by omega)) d_Odds_copyCounts_29 ?_
          refine lv_topi (fun v_3 ev_3 => ?_)
          refine va_iast hx hb hK hP hD hS 1 0 rfl rfl (vp_in_nI hj2 (by omega)) d_Odds_copyCounts_30 (fun H locs hP hD hS => ?_)
          have hP : va_P (dC, dI) vwCl [(oo, Sum.inr (7, [Value.int osg, Value.int (nI (ns C j)), Value.int ofc, Value.ref oca, Value.ref opa])), (oca, Sum.inl (cI, n, Sum.inl (upd fL (nI j).toNatClampNeg v_3))), (opa, Sum.inl (cI, opl, Sum.inl opf)), (ka, Sum.inl (cI, n, Sum.inl kf))] H := hP
          have hD : va_D A [(oo, Sum.inr (7, [Value.int osg, Value.int (nI (ns C j)), Value.int ofc, Value.ref oca, Value.ref opa])), (oca, Sum.inl (cI, n, Sum.inl (upd fL (nI j).toNatClampNeg v_3))), (opa, Sum.inl (cI, opl, Sum.inl opf)), (ka, Sum.inl (cI, n, Sum.inl kf))] := hD
          have hL8 : tbI (upd fL (nI j).toNatClampNeg v_3) (j + 1) C := tb_add hL (nI_clamp (by omega)) (by subst_vars; exact tb_rd hk hj2 (by omega))
          refine lv_aload_n hx hb d_Odds_copyCounts_31 rfl (lv_at hl 1 rfl) ?_
          refine lv_dup hx hb d_Odds_copyCounts_32 rfl ?_
          refine va_get (D := (dC, dI)) (ci := 7) (v := .int (nI (ns C j))) (C := "RangeCoders$Odds") (T := T_Odds) (N := 5) hx hb hg in_Odds hown hK hP 0 rfl rfl 1 (by decide) (hg _ k305) (fun _ h9 => h9) rfl d_Odds_copyCounts_33 ?_
          refine lv_aload_n hx hb d_Odds_copyCounts_36 rfl (lv_at hl 2 rfl) ?_
          refine lv_iload_n hx hb d_Odds_copyCounts_37 rfl (lv_at hl 0 rfl) ?_
          refine va_iald hx hb hK hP 3 0 rfl rfl (vp_in_nI hj2 (by omega)) d_Odds_copyCounts_38 ?_
          refine lv_topi (fun v_4 ev_4 => ?_)
          refine lv_iadd hx hb d_Odds_copyCounts_39 ?_
          refine lv_topi (fun v_5 ev_5 => ?_)
          have z9 : v_5 = nI (ns C (j + 1)) := by subst_vars; rw [tb_rd hk hj2 (by omega), nI_add]; rfl
          subst z9
          refine va_put (D := (dC, dI)) (ci := 7) (v := .int (nI (ns C (j + 1)))) (ty := .int) (C := "RangeCoders$Odds") (T := T_Odds) (N := 5) hx hb hg in_Odds t_Odds o_Odds n_Odds hown hK hP hD hS 0 rfl rfl 1 (by decide) (hg _ k305) (fun _ h9 => h9) rfl (by decide +kernel) rfl rfl (Nat.le_of_ble_eq_true rfl) d_Odds_copyCounts_40 (fun H locs hP hD hS => ?_)
          have hP : va_P (dC, dI) vwCl [(oo, Sum.inr (7, [Value.int osg, Value.int (nI (ns C (j + 1))), Value.int ofc, Value.ref oca, Value.ref opa])), (oca, Sum.inl (cI, n, Sum.inl (upd fL (nI j).toNatClampNeg v_3))), (opa, Sum.inl (cI, opl, Sum.inl opf)), (ka, Sum.inl (cI, n, Sum.inl kf))] H := hP
          have hD : va_D A [(oo, Sum.inr (7, [Value.int osg, Value.int (nI (ns C (j + 1))), Value.int ofc, Value.ref oca, Value.ref opa])), (oca, Sum.inl (cI, n, Sum.inl (upd fL (nI j).toNatClampNeg v_3))), (opa, Sum.inl (cI, opl, Sum.inl opf)), (ka, Sum.inl (cI, n, Sum.inl kf))] := hD
          obtain ⟨v_6, ev_6⟩ : ∃ y : Int32, y = (nI j) + (1) := ⟨_, rfl⟩
          refine lv_iinc (v := v_6) (lv' := [(2, Value.int v_6), (0, Value.ref oo), (1, Value.ref ka)]) hx hb d_Odds_copyCounts_43 hl (k := 0) rfl (by rw [ev_6]; rfl) (by decide) rfl (fun ls hl => ?_)
          have z9 : v_6 = nI (j + 1) := by rw [ev_6]; exact nI_1 _
          subst z9
          refine lv_goto (tgt := 7) hx hb d_Odds_copyCounts_46 (by decide) ?_
          exact ih9_7 _ (by first | omega | (omega)) (j + 1) (upd fL (nI j).toNatClampNeg v_3) rfl (by omega) (hL8) H locs ls (hP.sub [0, 1, 2, 3] rfl) (hD.sub [0, 1, 2, 3] (by decide +kernel) rfl) hS (lv_sub hl [0, 1, 2] rfl)
  exact J_7 _ (0 : Nat) ocf rfl (Nat.zero_le _) (tbI_0 _ _) H locs ls (hP.sub [0, 1, 2, 3] rfl) (hD.sub [0, 1, 2, 3] (by decide +kernel) rfl) hS (lv_sub hl [0, 1, 2] rfl)
set_option maxHeartbeats 2000000 in
set_option maxRecDepth 100000 in
theorem f_Odds_halve (l : Launch) (dC : Nat → ClassId) (dI : Nat → Nat → Nat) (cI cM cO : ClassId) (sz : Nat) (oo : Nat) (osg : Int32) (ofc : Int32) (oca : Nat) (opa : Nat) (n : Nat) (ocf : Nat → Int32) (opl : Nat) (opf : Nat → Int32) (F : Nat → Nat) (osm : Int32) (hn : n ≤ 64) (hpl : opl ≤ 512) (hf : tbI ocf n F) (hB : bd F n 1000000) : MetV l y_Odds_halve (Cond.code y_Odds_halve prog_7_method_16_code 2 none :: gw) ({ frames := 0, cells := 0, slots := 0, locals := 0 } : Room) (dC, dI) vwCl (kT cI cM cO) [Value.ref oo] [(oo, Sum.inr (7, [Value.int osg, Value.int osm, Value.int ofc, Value.ref oca, Value.ref opa])), (oca, Sum.inl (cI, n, Sum.inl ocf)), (opa, Sum.inl (cI, opl, Sum.inl opf))] sz (fun (u : (Nat → Int32)) => tbI u n (hv F)) (fun (u : (Nat → Int32)) => [(oo, Sum.inr (7, [Value.int osg, Value.int (nI (ns (hv F) n)), Value.int ofc, Value.ref oca, Value.ref opa])), (oca, Sum.inl (cI, n, Sum.inl u)), (opa, Sum.inl (cI, opl, Sum.inl opf))]) 0 0 := by
  refine my_ofV (cc := prog_7_method_16_code) (n := 2) (ret := none) (by decide) rfl (Nat.le_of_ble_eq_true rfl) ?_
  intro p e s m args below meth c R Q A ls H locs hx hb hr hts hown hlocks hml hnm hR hQ hA hl hP hK hN hD hS
  have hg : ∀ w ∈ gw, w.before args s = true := fun w h => hts w (List.mem_cons_of_mem _ h)
  have hown : s.vm.findClass "RangeCoders$Odds" = some m.cls := hown
  have hl : lv_has ls 2 [(0, Value.ref oo)] := hl
  refine lv_aload_n hx hb d_Odds_halve_0 rfl (lv_at hl 0 rfl) ?_
  refine lv_iconst (v := 0) hx hb d_Odds_halve_1 (by decide) ?_
  refine va_put (D := (dC, dI)) (ci := 7) (v := .int 0) (ty := .int) (C := "RangeCoders$Odds") (T := T_Odds) (N := 5) hx hb hg in_Odds t_Odds o_Odds n_Odds hown hK hP hD hS 0 rfl rfl 1 (by decide) (hg _ k305) (fun _ h9 => h9) rfl (by decide +kernel) rfl rfl (Nat.le_of_ble_eq_true rfl) d_Odds_halve_2 (fun H locs hP hD hS => ?_)
  have hP : va_P (dC, dI) vwCl [(oo, Sum.inr (7, [Value.int osg, Value.int 0, Value.int ofc, Value.ref oca, Value.ref opa])), (oca, Sum.inl (cI, n, Sum.inl ocf)), (opa, Sum.inl (cI, opl, Sum.inl opf))] H := hP
  have hD : va_D A [(oo, Sum.inr (7, [Value.int osg, Value.int 0, Value.int ofc, Value.ref oca, Value.ref opa])), (oca, Sum.inl (cI, n, Sum.inl ocf)), (opa, Sum.inl (cI, opl, Sum.inl opf))] := hD
  refine lv_iconst (v := 0) hx hb d_Odds_halve_5 (by decide) ?_
  refine lv_istore_n (lv' := [(1, Value.int 0), (0, Value.ref oo)]) hx hb d_Odds_halve_6 rfl hl (by decide) rfl (fun ls hl => ?_)
  have J_7 : ∀ (n9_7 : Nat) (j : Nat) (fL : Nat → Int32) (hn9_7 : n - j = n9_7) (hj : j ≤ n) (hL : tbL fL n j (hv F) F) (H : Heap) (locs : List Loc) (ls : Array Slot), va_P (dC, dI) vwCl [(oo, Sum.inr (7, [Value.int osg, Value.int (nI (ns (hv F) j)), Value.int ofc, Value.ref oca, Value.ref opa])), (oca, Sum.inl (cI, n, Sum.inl fL)), (opa, Sum.inl (cI, opl, Sum.inl opf))] H → va_D A [(oo, Sum.inr (7, [Value.int osg, Value.int (nI (ns (hv F) j)), Value.int ofc, Value.ref oca, Value.ref opa])), (oca, Sum.inl (cI, n, Sum.inl fL)), (opa, Sum.inl (cI, opl, Sum.inl opf))] → va_S A s.heap H locs → lv_has ls 2 [(1, Value.int (nI j)), (0, Value.ref oo)] → W p l e R s m args below meth c H locs 0 0 Q (F0 m 7 ls []) := by
    intro n9_7
    induction n9_7 using Nat.strongRecOn with
    | ind n9_7 ih9_7 =>
      intro j fL hn9_7 hj hL H locs ls hP hD hS hl
      refine lv_iload_n hx hb d_Odds_halve_7 rfl (lv_at hl 0 rfl) ?_
      refine lv_aload_n hx hb d_Odds_halve_8 rfl (lv_at hl 1 rfl) ?_
      refine va_get (D := (dC, dI)) (ci := 7) (v := .ref oca) (C := "RangeCoders$Odds") (T := T_Odds) (N := 5) hx hb hg in_Odds hown hK hP 0 rfl rfl 3 (by decide) (hg _ k309) (fun _ h9 => h9) rfl d_Odds_halve_9 ?_
      refine va_alen hx hb hK hP 1 0 rfl rfl (v := nI n) rfl d_Odds_halve_12 ?_
      refine lv_icmp_ge (tgt := 53) hx hb d_Odds_halve_13 (by decide) (fun c_1 => ?_) (fun c_1 => ?_)
      · have hj3 : n = j := by have := nI_ge' (by omega) (by omega) c_1; omega
        subst hj3
        have hP : va_P (dC, dI) vwCl [(oo, Sum.inr (7, [Value.int osg, Value.int (nI (ns (hv F) n)), Value.int ofc, Value.ref oca, Value.ref opa])), (oca, Sum.inl (cI, n, Sum.inl fL)), (opa, Sum.inl (cI, opl, Sum.inl opf))] H := hP
        have hD : va_D A [(oo, Sum.inr (7, [Value.int osg, Value.int (nI (ns (hv F) n)), Value.int ofc, Value.ref oca, Value.ref opa])), (oca, Sum.inl (cI, n, Sum.inl fL)), (opa, Sum.inl (cI, opl, Sum.inl opf))] := hD
        exact my_vret hx hb hr hlocks hQ hK hS (Nat.le_refl _) (Nat.le_refl _) (fL) (hL.1) (hP.sub [0, 1, 2] rfl) (hD.sub [0, 1, 2] (by decide +kernel) rfl) d_Odds_halve_53
      · have hj2 : j < n := nI_lt' (by omega) c_1
        have hb9 := hB j hj2
        refine lv_aload_n hx hb d_Odds_halve_16 rfl (lv_at hl 1 rfl) ?_
        refine va_get (D := (dC, dI)) (ci := 7) (v := .ref oca) (C := "RangeCoders$Odds") (T := T_Odds) (N := 5) hx hb hg in_Odds hown hK hP 0 rfl rfl 3 (by decide) (hg _ k309) (fun _ h9 => h9) rfl d_Odds_halve_17 ?_
        refine lv_iload_n hx hb d_Odds_halve_20 rfl (lv_at hl 0 rfl) ?_
        refine lv_aload_n hx hb d_Odds_halve_21 rfl (lv_at hl 1 rfl) ?_
        refine va_get (D := (dC, dI)) (ci := 7) (v := .ref oca) (C := "RangeCoders$Odds") (T := T_Odds) (N := 5) hx hb hg in_Odds hown hK hP 0 rfl rfl 3 (by decide) (hg _ k309) (fun _ h9 => h9) rfl d_Odds_halve_22 ?_
        refine lv_iload_n hx hb d_Odds_halve_25 rfl (lv_at hl 0 rfl) ?_
        refine va_iald hx hb hK hP 1 0 rfl rfl (vp_in_nI hj2 (by omega)) d_Odds_halve_26 ?_
        refine lv_topi (fun v_2 ev_2 => ?_)
        refine lv_iconst (v := 1) hx hb d_Odds_halve_27 (by decide) ?_
        refine lv_iadd hx hb d_Odds_halve_28 ?_
        refine lv_topi (fun v_3 ev_3 => ?_)
        refine lv_iconst (v := 2) hx hb d_Odds_halve_29 (by decide) ?_
        refine lv_idiv hx hb d_Odds_halve_30 (by decide) ?_
        refine lv_topi (fun v_4 ev_4 => ?_)
        have hval : v_4 = nI (hv F j) := by
          subst_vars
          rw [tb_rd2 hL hj2 (by omega)]
          exact (congrArg (· / (2 : Int32)) (nI_1 (F j))).trans (pk_div (d := 2) (by omega) (by decide) (by decide))
        refine va_iast hx hb hK hP hD hS 1 0 rfl rfl (vp_in_nI hj2 (by omega)) d_Odds_halve_31 (fun H locs hP hD hS => ?_)
        have hP : va_P (dC, dI) vwCl [(oo, Sum.inr (7, [Value.int osg, Value.int (nI (ns (hv F) j)), Value.int ofc, Value.ref oca, Value.ref opa])), (oca, Sum.inl (cI, n, Sum.inl (upd fL (nI j).toNatClampNeg v_4))), (opa, Sum.inl (cI, opl, Sum.inl opf))] H := hP
        have hD : va_D A [(oo, Sum.inr (7, [Value.int osg, Value.int (nI (ns (hv F) j)), Value.int ofc, Value.ref oca, Value.ref opa])), (oca, Sum.inl (cI, n, Sum.inl (upd fL (nI j).toNatClampNeg v_4))), (opa, Sum.inl (cI, opl, Sum.inl opf))] := hD
        have hL8 : tbL (upd fL (nI j).toNatClampNeg v_4) n (j + 1) (hv F) F := tbL_st hL (nI_clamp (by omega)) hval
        refine lv_aload_n hx hb d_Odds_halve_32 rfl (lv_at hl 1 rfl) ?_
        refine lv_dup hx hb d_Odds_halve_33 rfl ?_
        refine va_get (D := (dC, dI)) (ci := 7) (v := .int (nI (ns (hv F) j))) (C := "RangeCoders$Odds") (T := T_Odds) (N := 5) hx hb hg in_Odds hown hK hP 0 rfl rfl 1 (by decide) (hg _ k305) (fun _ h9 => h9) rfl d_Odds_halve_34 ?_
        refine lv_aload_n hx hb d_Odds_halve_37 rfl (lv_at hl 1 rfl) ?_
        refine va_get (D := (dC, dI)) (ci := 7) (v := .ref oca) (C := "RangeCoders$Odds") (T := T_Odds) (N := 5) hx hb hg in_Odds hown hK hP 0 rfl rfl 3 (by decide) (hg _ k309) (fun _ h9 => h9) rfl d_Odds_halve_38 ?_
        refine lv_iload_n hx hb d_Odds_halve_41 rfl (lv_at hl 0 rfl) ?_
        refine va_iald hx hb hK hP 1 0 rfl rfl (vp_in_nI hj2 (by omega)) d_Odds_halve_42 ?_
        refine lv_topi (fun v_5 ev_5 => ?_)
        have z9 : v_5 = nI (hv F j) := by rw [ev_5]; exact tb_rd hL8.1 (Nat.lt_succ_self _) (by omega)
        subst z9
        refine lv_iadd hx hb d_Odds_halve_43 ?_
        refine lv_topi (fun v_6 ev_6 => ?_)
        have z9 : v_6 = nI (ns (hv F) (j + 1)) := by rw [ev_6]; exact nI_add _ _
        subst z9
        refine va_put (D := (dC, dI)) (ci := 7) (v := .int (nI (ns (hv F) (j + 1)))) (ty := .int) (C := "RangeCoders$Odds") (T := T_Odds) (N := 5) hx hb hg in_Odds t_Odds o_Odds n_Odds hown hK hP hD hS 0 rfl rfl 1 (by decide) (hg _ k305) (fun _ h9 => h9) rfl (by decide +kernel) rfl rfl (Nat.le_of_ble_eq_true rfl) d_Odds_halve_44 (fun H locs hP hD hS => ?_)
        have hP : va_P (dC, dI) vwCl [(oo, Sum.inr (7, [Value.int osg, Value.int (nI (ns (hv F) (j + 1))), Value.int ofc, Value.ref oca, Value.ref opa])), (oca, Sum.inl (cI, n, Sum.inl (upd fL (nI j).toNatClampNeg v_4))), (opa, Sum.inl (cI, opl, Sum.inl opf))] H := hP
        have hD : va_D A [(oo, Sum.inr (7, [Value.int osg, Value.int (nI (ns (hv F) (j + 1))), Value.int ofc, Value.ref oca, Value.ref opa])), (oca, Sum.inl (cI, n, Sum.inl (upd fL (nI j).toNatClampNeg v_4))), (opa, Sum.inl (cI, opl, Sum.inl opf))] := hD
        obtain ⟨v_7, ev_7⟩ : ∃ y : Int32, y = (nI j) + (1) := ⟨_, rfl⟩
        refine lv_iinc (v := v_7) (lv' := [(1, Value.int v_7), (0, Value.ref oo)]) hx hb d_Odds_halve_47 hl (k := 0) rfl (by rw [ev_7]; rfl) (by decide) rfl (fun ls hl => ?_)
        have z9 : v_7 = nI (j + 1) := by rw [ev_7]; exact nI_1 _
        subst z9
        refine lv_goto (tgt := 7) hx hb d_Odds_halve_50 (by decide) ?_
        exact ih9_7 _ (by first | omega | (omega)) (j + 1) (upd fL (nI j).toNatClampNeg v_4) rfl (by omega) (hL8) H locs ls (hP.sub [0, 1, 2] rfl) (hD.sub [0, 1, 2] (by decide +kernel) rfl) hS (lv_sub hl [0, 1] rfl)
  exact J_7 _ (0 : Nat) ocf rfl (Nat.zero_le _) (tbL_0 hf) H locs ls (hP.sub [0, 1, 2] rfl) (hD.sub [0, 1, 2] (by decide +kernel) rfl) hS (lv_sub hl [0, 1] rfl)
set_option maxHeartbeats 2000000 in
set_option maxRecDepth 100000 in
theorem f_Odds_below (l : Launch) (dC : Nat → ClassId) (dI : Nat → Nat → Nat) (cI cM cO : ClassId) (sz : Nat) (oo : Nat) (osg : Int32) (ofc : Int32) (oca : Nat) (opa : Nat) (n : Nat) (ocf : Nat → Int32) (opl : Nat) (opf : Nat → Int32) (F : Nat → Nat) (osm : Int32) (t : Nat) (hn : n ≤ 64) (hpl : opl ≤ 512) (hf : tbI ocf n F) (ht : t ≤ n) : MetI l y_Odds_below (Cond.code y_Odds_below prog_7_method_8_code 4 (some .int) :: gw) ({ frames := 0, cells := 0, slots := 0, locals := 0 } : Room) (dC, dI) vwCl (kT cI cM cO) [Value.ref oo, Value.int (nI t)] [(oo, Sum.inr (7, [Value.int osg, Value.int osm, Value.int ofc, Value.ref oca, Value.ref opa])), (oca, Sum.inl (cI, n, Sum.inl ocf)), (opa, Sum.inl (cI, opl, Sum.inl opf))] sz (fun (r : Int32) (u : Unit) => r = nI (ns F t)) (fun (u : Unit) => [(oo, Sum.inr (7, [Value.int osg, Value.int osm, Value.int ofc, Value.ref oca, Value.ref opa])), (oca, Sum.inl (cI, n, Sum.inl ocf)), (opa, Sum.inl (cI, opl, Sum.inl opf))]) 0 0 := by
  refine my_ofI (cc := prog_7_method_8_code) (n := 4) (ret := (some .int)) (by decide) rfl (Nat.le_of_ble_eq_true rfl) ?_
  intro p e s m args below meth c R Q A ls H locs hx hb hr hts hown hlocks hml hnm hR hQ hA hl hP hK hN hD hS
  have hg : ∀ w ∈ gw, w.before args s = true := fun w h => hts w (List.mem_cons_of_mem _ h)
  have hown : s.vm.findClass "RangeCoders$Odds" = some m.cls := hown
  have hl : lv_has ls 4 [(0, Value.ref oo), (1, Value.int (nI t))] := hl
  refine lv_iconst (v := 0) hx hb d_Odds_below_0 (by decide) ?_
  refine lv_istore_n (lv' := [(2, Value.int 0), (0, Value.ref oo), (1, Value.int (nI t))]) hx hb d_Odds_below_1 rfl hl (by decide) rfl (fun ls hl => ?_)
  refine lv_iconst (v := 0) hx hb d_Odds_below_2 (by decide) ?_
  refine lv_istore_n (lv' := [(3, Value.int 0), (2, Value.int 0), (0, Value.ref oo), (1, Value.int (nI t))]) hx hb d_Odds_below_3 rfl hl (by decide) rfl (fun ls hl => ?_)
  have J_4 : ∀ (n9_4 : Nat) (j : Nat) (hn9_4 : t - j = n9_4) (hj : j ≤ t) (H : Heap) (locs : List Loc) (ls : Array Slot), va_P (dC, dI) vwCl [(oo, Sum.inr (7, [Value.int osg, Value.int osm, Value.int ofc, Value.ref oca, Value.ref opa])), (oca, Sum.inl (cI, n, Sum.inl ocf)), (opa, Sum.inl (cI, opl, Sum.inl opf))] H → va_D A [(oo, Sum.inr (7, [Value.int osg, Value.int osm, Value.int ofc, Value.ref oca, Value.ref opa])), (oca, Sum.inl (cI, n, Sum.inl ocf)), (opa, Sum.inl (cI, opl, Sum.inl opf))] → va_S A s.heap H locs → lv_has ls 4 [(3, Value.int (nI j)), (2, Value.int (nI (ns F j))), (0, Value.ref oo), (1, Value.int (nI t))] → W p l e R s m args below meth c H locs 0 0 Q (F0 m 4 ls []) := by
    intro n9_4
    induction n9_4 using Nat.strongRecOn with
    | ind n9_4 ih9_4 =>
      intro j hn9_4 hj H locs ls hP hD hS hl
      refine lv_iload_n hx hb d_Odds_below_4 rfl (lv_at hl 0 rfl) ?_
      refine lv_iload_n hx hb d_Odds_below_5 rfl (lv_at hl 3 rfl) ?_
      refine lv_icmp_ge (tgt := 33) hx hb d_Odds_below_6 (by decide) (fun c_1 => ?_) (fun c_1 => ?_)
      · have hj3 : j = t := by have := nI_ge' (by omega) (by omega) c_1; omega
        refine lv_iload_n hx hb d_Odds_below_33 rfl (lv_at hl 1 rfl) ?_
        exact my_iret (v := nI (ns F j)) hx hb hr (rfl) hlocks hQ hK hS (Nat.le_refl _) (Nat.le_refl _) () (by rw [hj3]) (hP.sub [0, 1, 2] rfl) (hD.sub [0, 1, 2] (by decide +kernel) rfl) d_Odds_below_34
      · have hj2 : j < t := nI_lt' (by omega) c_1
        refine lv_iload_n hx hb d_Odds_below_9 rfl (lv_at hl 0 rfl) ?_
        refine lv_aload_n hx hb d_Odds_below_10 rfl (lv_at hl 2 rfl) ?_
        refine va_get (D := (dC, dI)) (ci := 7) (v := .ref oca) (C := "RangeCoders$Odds") (T := T_Odds) (N := 5) hx hb hg in_Odds hown hK hP 0 rfl rfl 3 (by decide) (hg _ k309) (fun _ h9 => h9) rfl d_Odds_below_11 ?_
        refine va_alen hx hb hK hP 1 0 rfl rfl (v := nI n) rfl d_Odds_below_14 ?_
        refine lv_icmp_ge (tgt := 33) hx hb d_Odds_below_15 (by decide) (fun c_2 => ?_) (fun c_2 => ?_)
        · exact absurd c_2 (nI_ge (show j < n by omega) (by omega))
        · refine lv_iload_n hx hb d_Odds_below_18 rfl (lv_at hl 1 rfl) ?_
          refine lv_aload_n hx hb d_Odds_below_19 rfl (lv_at hl 2 rfl) ?_
          refine va_get (D := (dC, dI)) (ci := 7) (v := .ref oca) (C := "RangeCoders$Odds") (T := T_Odds) (N := 5) hx hb hg in_Odds hown hK hP 0 rfl rfl 3 (by decide) (hg _ k309) (fun _ h9 => h9) rfl d_Odds_below_20 ?_
          refine lv_iload_n hx hb d_Odds_below_23 rfl (lv_at hl 0 rfl) ?_
          refine va_iald hx hb hK hP 1 0 rfl rfl (vp_in_nI (by omega) (by omega)) d_Odds_below_24 ?_
          refine lv_topi (fun v_3 ev_3 => ?_)
          refine lv_iadd hx hb d_Odds_below_25 ?_
          refine lv_topi (fun v_4 ev_4 => ?_)
          have z9 : v_4 = nI (ns F (j + 1)) := by subst_vars; rw [tb_rd hf (show j < n by omega) (by omega), nI_add]; rfl
          subst z9
          refine lv_istore_n (lv' := [(2, Value.int (nI (ns F (j + 1)))), (3, Value.int (nI j)), (0, Value.ref oo), (1, Value.int (nI t))]) hx hb d_Odds_below_26 rfl hl (by decide) rfl (fun ls hl => ?_)
          obtain ⟨v_5, ev_5⟩ : ∃ y : Int32, y = (nI j) + (1) := ⟨_, rfl⟩
          refine lv_iinc (v := v_5) (lv' := [(3, Value.int v_5), (2, Value.int (nI (ns F (j + 1)))), (0, Value.ref oo), (1, Value.int (nI t))]) hx hb d_Odds_below_27 hl (k := 1) rfl (by rw [ev_5]; rfl) (by decide) rfl (fun ls hl => ?_)
          have z9 : v_5 = nI (j + 1) := by rw [ev_5]; exact nI_1 _
          subst z9
          refine lv_goto (tgt := 4) hx hb d_Odds_below_30 (by decide) ?_
          exact ih9_4 _ (by first | omega | (omega)) (j + 1) rfl (by omega) H locs ls (hP.sub [0, 1, 2] rfl) (hD.sub [0, 1, 2] (by decide +kernel) rfl) hS (lv_sub hl [0, 1, 2, 3] rfl)
  exact J_4 _ (0 : Nat) rfl (Nat.zero_le _) H locs ls (hP.sub [0, 1, 2] rfl) (hD.sub [0, 1, 2] (by decide +kernel) rfl) hS (lv_sub hl [0, 1, 2, 3] rfl)
set_option maxHeartbeats 2000000 in
set_option maxRecDepth 100000 in
theorem f_Odds_greatest (l : Launch) (dC : Nat → ClassId) (dI : Nat → Nat → Nat) (cI cM cO : ClassId) (sz : Nat) (oo : Nat) (osg : Int32) (ofc : Int32) (oca : Nat) (opa : Nat) (n : Nat) (ocf : Nat → Int32) (opl : Nat) (opf : Nat → Int32) (F : Nat → Nat) (osm : Int32) (hn : n ≤ 64) (hpl : opl ≤ 512) (hf : tbI ocf n F) (hn1 : 1 ≤ n) (hB : bd F n 1000000) : MetI l y_Odds_greatest (Cond.code y_Odds_greatest prog_7_method_17_code 3 (some .int) :: gw) ({ frames := 0, cells := 0, slots := 0, locals := 0 } : Room) (dC, dI) vwCl (kT cI cM cO) [Value.ref oo] [(oo, Sum.inr (7, [Value.int osg, Value.int osm, Value.int ofc, Value.ref oca, Value.ref opa])), (oca, Sum.inl (cI, n, Sum.inl ocf)), (opa, Sum.inl (cI, opl, Sum.inl opf))] sz (fun (r : Int32) (u : Unit) => r = nI (gr F n)) (fun (u : Unit) => [(oo, Sum.inr (7, [Value.int osg, Value.int osm, Value.int ofc, Value.ref oca, Value.ref opa])), (oca, Sum.inl (cI, n, Sum.inl ocf)), (opa, Sum.inl (cI, opl, Sum.inl opf))]) 0 0 := by
  refine my_ofI (cc := prog_7_method_17_code) (n := 3) (ret := (some .int)) (by decide) rfl (Nat.le_of_ble_eq_true rfl) ?_
  intro p e s m args below meth c R Q A ls H locs hx hb hr hts hown hlocks hml hnm hR hQ hA hl hP hK hN hD hS
  have hg : ∀ w ∈ gw, w.before args s = true := fun w h => hts w (List.mem_cons_of_mem _ h)
  have hown : s.vm.findClass "RangeCoders$Odds" = some m.cls := hown
  have hl : lv_has ls 3 [(0, Value.ref oo)] := hl
  refine lv_iconst (v := 0) hx hb d_Odds_greatest_0 (by decide) ?_
  refine lv_istore_n (lv' := [(1, Value.int 0), (0, Value.ref oo)]) hx hb d_Odds_greatest_1 rfl hl (by decide) rfl (fun ls hl => ?_)
  refine lv_iconst (v := 1) hx hb d_Odds_greatest_2 (by decide) ?_
  refine lv_istore_n (lv' := [(2, Value.int 1), (1, Value.int 0), (0, Value.ref oo)]) hx hb d_Odds_greatest_3 rfl hl (by decide) rfl (fun ls hl => ?_)
  have J_4 : ∀ (n9_4 : Nat) (j : Nat) (g9 : Nat) (hn9_4 : n - j = n9_4) (hg9 : g9 = gr F j) (hj : j ≤ n) (hj1 : 0 < j) (H : Heap) (locs : List Loc) (ls : Array Slot), va_P (dC, dI) vwCl [(oo, Sum.inr (7, [Value.int osg, Value.int osm, Value.int ofc, Value.ref oca, Value.ref opa])), (oca, Sum.inl (cI, n, Sum.inl ocf)), (opa, Sum.inl (cI, opl, Sum.inl opf))] H → va_D A [(oo, Sum.inr (7, [Value.int osg, Value.int osm, Value.int ofc, Value.ref oca, Value.ref opa])), (oca, Sum.inl (cI, n, Sum.inl ocf)), (opa, Sum.inl (cI, opl, Sum.inl opf))] → va_S A s.heap H locs → lv_has ls 3 [(2, Value.int (nI j)), (1, Value.int (nI g9)), (0, Value.ref oo)] → W p l e R s m args below meth c H locs 0 0 Q (F0 m 4 ls []) := by
    intro n9_4
    induction n9_4 using Nat.strongRecOn with
    | ind n9_4 ih9_4 =>
      intro j g9 hn9_4 hg9 hj hj1 H locs ls hP hD hS hl
      refine lv_iload_n hx hb d_Odds_greatest_4 rfl (lv_at hl 0 rfl) ?_
      refine lv_aload_n hx hb d_Odds_greatest_5 rfl (lv_at hl 2 rfl) ?_
      refine va_get (D := (dC, dI)) (ci := 7) (v := .ref oca) (C := "RangeCoders$Odds") (T := T_Odds) (N := 5) hx hb hg in_Odds hown hK hP 0 rfl rfl 3 (by decide) (hg _ k309) (fun _ h9 => h9) rfl d_Odds_greatest_6 ?_
      refine va_alen hx hb hK hP 1 0 rfl rfl (v := nI n) rfl d_Odds_greatest_9 ?_
      refine lv_icmp_ge (tgt := 36) hx hb d_Odds_greatest_10 (by decide) (fun c_1 => ?_) (fun c_1 => ?_)
      · have hj3 : j = n := by have := nI_ge' (by omega) (by omega) c_1; omega
        refine lv_iload_n hx hb d_Odds_greatest_36 rfl (lv_at hl 1 rfl) ?_
        exact my_iret (v := nI g9) hx hb hr (rfl) hlocks hQ hK hS (Nat.le_refl _) (Nat.le_refl _) () (by rw [hg9, hj3]) (hP.sub [0, 1, 2] rfl) (hD.sub [0, 1, 2] (by decide +kernel) rfl) d_Odds_greatest_37
      · have hj2 : j < n := nI_lt' (by omega) c_1
        have hg1 : g9 < j := by rw [hg9]; exact gr_lt F hj1
        have hb1 := hB j hj2
        have hb2 := hB g9 (by omega)
        refine lv_aload_n hx hb d_Odds_greatest_13 rfl (lv_at hl 2 rfl) ?_
        refine va_get (D := (dC, dI)) (ci := 7) (v := .ref oca) (C := "RangeCoders$Odds") (T := T_Odds) (N := 5) hx hb hg in_Odds hown hK hP 0 rfl rfl 3 (by decide) (hg _ k309) (fun _ h9 => h9) rfl d_Odds_greatest_14 ?_
        refine lv_iload_n hx hb d_Odds_greatest_17 rfl (lv_at hl 0 rfl) ?_
        refine va_iald hx hb hK hP 1 0 rfl rfl (vp_in_nI hj2 (by omega)) d_Odds_greatest_18 ?_
        refine lv_topi (fun v_2 ev_2 => ?_)
        have hld : v_2 = nI (F j) := by rw [ev_2]; exact tb_rd hf hj2 (by omega)
        refine lv_aload_n hx hb d_Odds_greatest_19 rfl (lv_at hl 2 rfl) ?_
        refine va_get (D := (dC, dI)) (ci := 7) (v := .ref oca) (C := "RangeCoders$Odds") (T := T_Odds) (N := 5) hx hb hg in_Odds hown hK hP 0 rfl rfl 3 (by decide) (hg _ k309) (fun _ h9 => h9) rfl d_Odds_greatest_20 ?_
        refine lv_iload_n hx hb d_Odds_greatest_23 rfl (lv_at hl 1 rfl) ?_
        refine va_iald hx hb hK hP 1 0 rfl rfl (vp_in_nI (show g9 < n by omega) (by omega)) d_Odds_greatest_24 ?_
        refine lv_topi (fun v_3 ev_3 => ?_)
        have hlg : v_3 = nI (F g9) := by rw [ev_3]; exact tb_rd hf (show g9 < n by omega) (by omega)
        refine lv_icmp_le (tgt := 30) hx hb d_Odds_greatest_25 (by decide) (fun c_4 => ?_) (fun c_4 => ?_)
        · obtain ⟨v_5, ev_5⟩ : ∃ y : Int32, y = (nI j) + (1) := ⟨_, rfl⟩
          refine lv_iinc (v := v_5) (lv' := [(2, Value.int v_5), (1, Value.int (nI g9)), (0, Value.ref oo)]) hx hb d_Odds_greatest_30 hl (k := 0) rfl (by rw [ev_5]; rfl) (by decide) rfl (fun ls hl => ?_)
          have z9 : v_5 = nI (j + 1) := by rw [ev_5]; exact nI_1 _
          subst z9
          refine lv_goto (tgt := 4) hx hb d_Odds_greatest_33 (by decide) ?_
          exact ih9_4 _ (by first | omega | (omega)) (j + 1) g9 rfl (by rw [gr]; rw [if_neg (by rw [hld, hlg, nI_cmp (by omega) (by omega)] at c_4; rw [← hg9]; omega)]; exact hg9) (by omega) (by omega) H locs ls (hP.sub [0, 1, 2] rfl) (hD.sub [0, 1, 2] (by decide +kernel) rfl) hS (lv_sub hl [0, 1, 2] rfl)
        · refine lv_iload_n hx hb d_Odds_greatest_28 rfl (lv_at hl 0 rfl) ?_
          refine lv_istore_n (lv' := [(1, Value.int (nI j)), (2, Value.int (nI j)), (0, Value.ref oo)]) hx hb d_Odds_greatest_29 rfl hl (by decide) rfl (fun ls hl => ?_)
          obtain ⟨v_6, ev_6⟩ : ∃ y : Int32, y = (nI j) + (1) := ⟨_, rfl⟩
          refine lv_iinc (v := v_6) (lv' := [(2, Value.int v_6), (1, Value.int (nI j)), (0, Value.ref oo)]) hx hb d_Odds_greatest_30 hl (k := 1) rfl (by rw [ev_6]; rfl) (by decide) rfl (fun ls hl => ?_)
          have z9 : v_6 = nI (j + 1) := by rw [ev_6]; exact nI_1 _
          subst z9
          refine lv_goto (tgt := 4) hx hb d_Odds_greatest_33 (by decide) ?_
          exact ih9_4 _ (by first | omega | (omega)) (j + 1) j rfl (by rw [gr]; rw [if_pos (by rw [hld, hlg, nI_cmp (by omega) (by omega)] at c_4; rw [← hg9]; omega)]) (by omega) (by omega) H locs ls (hP.sub [0, 1, 2] rfl) (hD.sub [0, 1, 2] (by decide +kernel) rfl) hS (lv_sub hl [0, 1, 2] rfl)
  exact J_4 _ (1 : Nat) (0 : Nat) rfl (by simp [gr]) (hn1) (by decide) H locs ls (hP.sub [0, 1, 2] rfl) (hD.sub [0, 1, 2] (by decide +kernel) rfl) hS (lv_sub hl [0, 1, 2] rfl)
set_option maxHeartbeats 2000000 in
set_option maxRecDepth 100000 in
theorem f_Odds_fromCounts (l : Launch) (dC : Nat → ClassId) (dI : Nat → Nat → Nat) (cI cM cO : ClassId) (sz : Nat) (oo : Nat) (osg : Int32) (ofc : Int32) (oca : Nat) (opa : Nat) (n : Nat) (ocf : Nat → Int32) (opl : Nat) (opf : Nat → Int32) (osm : Int32) (ka : Nat) (kf : Nat → Int32) (C : Nat → Nat) (hn : n ≤ 64) (hpl : opl ≤ 512) (hk : tbI kf n C) (hB : bd C n 4095) : MetV l y_Odds_fromCounts (Cond.code y_Odds_fromCounts prog_7_method_6_code 3 none :: gw) ({ frames := 1, cells := 0, slots := 0, locals := 22 } : Room) (dC, dI) vwCl (kT cI cM cO) [Value.ref oo, Value.ref ka] [(oo, Sum.inr (7, [Value.int osg, Value.int osm, Value.int ofc, Value.ref oca, Value.ref opa])), (oca, Sum.inl (cI, n, Sum.inl ocf)), (opa, Sum.inl (cI, opl, Sum.inl opf)), (ka, Sum.inl (cI, n, Sum.inl kf))] sz (fun (u : (Nat → Int32)) => tbI u n (les n C)) (fun (u : (Nat → Int32)) => [(oo, Sum.inr (7, [Value.int osg, Value.int (nI (ns (les n C) n)), Value.int ofc, Value.ref oca, Value.ref opa])), (oca, Sum.inl (cI, n, Sum.inl u)), (opa, Sum.inl (cI, opl, Sum.inl opf)), (ka, Sum.inl (cI, n, Sum.inl kf))]) 0 0 := by
  refine my_ofV (cc := prog_7_method_6_code) (n := 3) (ret := none) (by decide) rfl (Nat.le_of_ble_eq_true rfl) ?_
  intro p e s m args below meth c R Q A ls H locs hx hb hr hts hown hlocks hml hnm hR hQ hA hl hP hK hN hD hS
  have hg : ∀ w ∈ gw, w.before args s = true := fun w h => hts w (List.mem_cons_of_mem _ h)
  have hown : s.vm.findClass "RangeCoders$Odds" = some m.cls := hown
  have hl : lv_has ls 3 [(0, Value.ref oo), (1, Value.ref ka)] := hl
  refine lv_aload_n hx hb d_Odds_fromCounts_0 rfl (lv_at hl 0 rfl) ?_
  refine lv_aload_n hx hb d_Odds_fromCounts_1 rfl (lv_at hl 1 rfl) ?_
  refine my_cv (wr := []) (va_runV (As := [Value.ref ka]) (rest := []) ⟨hx, hb, hml, hown, hts⟩ (f_Odds_copyCounts l dC dI cI cM cO H.size oo osg ofc oca opa n ocf opl opf osm ka kf C (by first | assumption | omega) (by first | assumption | omega) (by first | assumption | omega) (by first | assumption | omega)) (cwV 1 hts (my_gV k371 k373 ks0 k14 k374) rfl rfl rfl (by decide +kernel) ⟨by rw [hR]; exact Nat.le_of_ble_eq_true rfl, by rw [hR]; exact Nat.le_of_ble_eq_true rfl⟩) (my_preV hK hN (hP.sub [0, 1, 2, 3] rfl) (hD.sub [0, 1, 2, 3] (by decide +kernel) rfl) 0 rfl rfl) rfl rfl hl.1 rfl (lv_room (Nat.le_of_ble_eq_true rfl)) d_Odds_fromCounts_2 ⟨by rw [hR]; exact Nat.le_of_ble_eq_true rfl, by rw [hR]; exact Nat.le_of_ble_eq_true rfl⟩) hP hD hS hA [0, 1, 2, 3] [] rfl rfl (by decide +kernel) (by decide +kernel) (fun u9 H locs hw_2 hP hD hS => ?_)
  obtain ⟨ocfq_2, rfl⟩ : ∃ z, z = u9 := ⟨_, rfl⟩
  have hf_2 : tbI ocfq_2 n C := hw_2
  have hP : va_P (dC, dI) vwCl [(oo, Sum.inr (7, [Value.int osg, Value.int (nI (ns C n)), Value.int ofc, Value.ref oca, Value.ref opa])), (oca, Sum.inl (cI, n, Sum.inl ocfq_2)), (opa, Sum.inl (cI, opl, Sum.inl opf)), (ka, Sum.inl (cI, n, Sum.inl kf))] H := hP
  have hD : va_D A [(oo, Sum.inr (7, [Value.int osg, Value.int (nI (ns C n)), Value.int ofc, Value.ref oca, Value.ref opa])), (oca, Sum.inl (cI, n, Sum.inl ocfq_2)), (opa, Sum.inl (cI, opl, Sum.inl opf)), (ka, Sum.inl (cI, n, Sum.inl kf))] := hD
  refine lv_iconst (v := 0) hx hb d_Odds_fromCounts_5 (by decide) ?_
  refine lv_istore_n (lv' := [(2, Value.int 0), (0, Value.ref oo), (1, Value.ref ka)]) hx hb d_Odds_fromCounts_6 rfl hl (by decide) rfl (fun ls hl => ?_)
  have J_7 : ∀ (n9_7 : Nat) (r9 : Nat) (F9 : Nat → Nat) (fL : Nat → Int32) (hn9_7 : r9 = n9_7) (hI : tbI fL n F9) (hE : les n C = lesN n r9 F9) (hbF : bd F9 n (lb r9)) (hr1 : 27 ≤ r9) (hr2 : r9 ≤ 32) (H : Heap) (locs : List Loc) (ls : Array Slot), va_P (dC, dI) vwCl [(oo, Sum.inr (7, [Value.int osg, Value.int (nI (ns F9 n)), Value.int ofc, Value.ref oca, Value.ref opa])), (oca, Sum.inl (cI, n, Sum.inl fL)), (opa, Sum.inl (cI, opl, Sum.inl opf)), (ka, Sum.inl (cI, n, Sum.inl kf))] H → va_D A [(oo, Sum.inr (7, [Value.int osg, Value.int (nI (ns F9 n)), Value.int ofc, Value.ref oca, Value.ref opa])), (oca, Sum.inl (cI, n, Sum.inl fL)), (opa, Sum.inl (cI, opl, Sum.inl opf)), (ka, Sum.inl (cI, n, Sum.inl kf))] → va_S A s.heap H locs → lv_has ls 3 [(2, Value.int (nI (32 - r9))), (0, Value.ref oo), (1, Value.ref ka)] → W p l e R s m args below meth c H locs 0 0 Q (F0 m 7 ls []) := by
    intro n9_7
    induction n9_7 using Nat.strongRecOn with
    | ind n9_7 ih9_7 =>
      intro r9 F9 fL hn9_7 hI hE hbF hr1 hr2 H locs ls hP hD hS hl
      have hb0 : bd F9 n 4095 := fun k hk => Nat.le_trans (hbF k hk) (by unfold lb; repeat (first | omega | split))
      have hs9 := ns_le64 hn hb0
      refine lv_iload_n hx hb d_Odds_fromCounts_7 rfl (lv_at hl 0 rfl) ?_
      refine lv_bipush (v := 32) hx hb d_Odds_fromCounts_8 (by decide) ?_
      refine lv_icmp_ge (tgt := 33) hx hb d_Odds_fromCounts_10 (by decide) (fun c_1 => ?_) (fun c_1 => ?_)
      · exact absurd (nI_ge' (n := 32) (by omega) (by decide) c_1) (by omega)
      · refine lv_aload_n hx hb d_Odds_fromCounts_13 rfl (lv_at hl 1 rfl) ?_
        refine va_get (D := (dC, dI)) (ci := 7) (v := .int (nI (ns F9 n))) (C := "RangeCoders$Odds") (T := T_Odds) (N := 5) hx hb hg in_Odds hown hK hP 0 rfl rfl 1 (by decide) (hg _ k305) (fun _ h9 => h9) rfl d_Odds_fromCounts_14 ?_
        refine lv_sipush (v := 8192) hx hb d_Odds_fromCounts_17 (by decide) ?_
        refine lv_icmp_le (tgt := 33) hx hb d_Odds_fromCounts_20 (by decide) (fun c_2 => ?_) (fun c_2 => ?_)
        · have hle : ns F9 n ≤ 8192 := (nI_cmp (b := 8192) (by omega) (by decide)).mp c_2
          have z9 : F9 = les n C := by rw [hE, lesN_e hle]
          subst z9
          exact my_vret hx hb hr hlocks hQ hK hS (Nat.le_refl _) (Nat.le_refl _) (fL) (hI) (hP.sub [0, 1, 2, 3] rfl) (hD.sub [0, 1, 2, 3] (by decide +kernel) rfl) d_Odds_fromCounts_33
        · have hgt : ¬ ns F9 n ≤ 8192 := fun q => absurd (nI_le (b := 8192) q (by decide)) c_2
          have hr27 : 27 < r9 := by
            rcases Nat.lt_or_ge 27 r9 with q | q
            · exact q
            · have e : r9 = 27 := by omega
              subst e
              exact absurd (ns_le64 hn hbF) (by simp [lb]; omega)
          refine lv_aload_n hx hb d_Odds_fromCounts_23 rfl (lv_at hl 1 rfl) ?_
          refine my_cv (wr := [(ka, Sum.inl (cI, n, Sum.inl kf))]) (va_runV (As := []) (rest := []) ⟨hx, hb, hml, hown, hts⟩ (f_Odds_halve l dC dI cI cM cO H.size oo osg ofc oca opa n fL opl opf F9 (nI (ns F9 n)) (by first | assumption | omega) (by first | assumption | omega) (hI) (fun k hk => Nat.le_trans (hb0 k hk) (by decide))) (cwV 0 hts (my_gV k375 k377 ks1 k14 k378) rfl rfl rfl (by decide +kernel) ⟨by rw [hR]; exact Nat.le_of_ble_eq_true rfl, by rw [hR]; exact Nat.le_of_ble_eq_true rfl⟩) (my_preV hK hN (hP.sub [0, 1, 2] rfl) (hD.sub [0, 1, 2] (by decide +kernel) rfl) 0 rfl rfl) rfl rfl hl.1 rfl (lv_room (Nat.le_of_ble_eq_true rfl)) d_Odds_fromCounts_24 ⟨by rw [hR]; exact Nat.le_of_ble_eq_true rfl, by rw [hR]; exact Nat.le_of_ble_eq_true rfl⟩) hP hD hS hA [0, 1, 2] [3] rfl rfl (by decide +kernel) (by decide +kernel) (fun u9 H locs hw_24 hP hD hS => ?_)
          obtain ⟨ocfq_24, rfl⟩ : ∃ z, z = u9 := ⟨_, rfl⟩
          have hf_24 : tbI ocfq_24 n (hv F9) := hw_24
          have hP : va_P (dC, dI) vwCl [(ka, Sum.inl (cI, n, Sum.inl kf)), (oo, Sum.inr (7, [Value.int osg, Value.int (nI (ns (hv F9) n)), Value.int ofc, Value.ref oca, Value.ref opa])), (oca, Sum.inl (cI, n, Sum.inl ocfq_24)), (opa, Sum.inl (cI, opl, Sum.inl opf))] H := hP
          have hD : va_D A [(ka, Sum.inl (cI, n, Sum.inl kf)), (oo, Sum.inr (7, [Value.int osg, Value.int (nI (ns (hv F9) n)), Value.int ofc, Value.ref oca, Value.ref opa])), (oca, Sum.inl (cI, n, Sum.inl ocfq_24)), (opa, Sum.inl (cI, opl, Sum.inl opf))] := hD
          obtain ⟨v_3, ev_3⟩ : ∃ y : Int32, y = (nI (32 - r9)) + (1) := ⟨_, rfl⟩
          refine lv_iinc (v := v_3) (lv' := [(2, Value.int v_3), (0, Value.ref oo), (1, Value.ref ka)]) hx hb d_Odds_fromCounts_27 hl (k := 0) rfl (by rw [ev_3]; rfl) (by decide) rfl (fun ls hl => ?_)
          have z9 : v_3 = nI (32 - (r9 - 1)) := by rw [ev_3]; rw [show 32 - (r9 - 1) = 32 - r9 + 1 by omega]; exact nI_1 _
          subst z9
          refine lv_goto (tgt := 7) hx hb d_Odds_fromCounts_30 (by decide) ?_
          exact ih9_7 _ (by first | omega | (omega)) (r9 - 1) (hv F9) ocfq_24 rfl (hf_24) (by rw [hE, lesN_s (by omega) hgt]) (fun k hk => lb_st hr27 hr2 (hbF k hk)) (by omega) (by omega) H locs ls (hP.sub [1, 2, 3, 0] rfl) (hD.sub [1, 2, 3, 0] (by decide +kernel) rfl) hS (lv_sub hl [0, 1, 2] rfl)
  exact J_7 _ (32 : Nat) C ocfq_2 rfl (hf_2) (rfl) (hB) (by decide) (by decide) H locs ls (hP.sub [0, 1, 2, 3] rfl) (hD.sub [0, 1, 2, 3] (by decide +kernel) rfl) hS (lv_sub hl [0, 1, 2] rfl)
set_option maxHeartbeats 2000000 in
set_option maxRecDepth 100000 in
theorem f_Odds_learn (l : Launch) (dC : Nat → ClassId) (dI : Nat → Nat → Nat) (cI cM cO : ClassId) (sz : Nat) (oo : Nat) (osg : Int32) (ofc : Int32) (oca : Nat) (opa : Nat) (n : Nat) (ocf : Nat → Int32) (opl : Nat) (opf : Nat → Int32) (F : Nat → Nat) (t : Nat) (hn : n ≤ 64) (hpl : opl ≤ 512) (hf : tbI ocf n F) (ht : t < n) (hfc : ofc ≤ nI t) (hB : bd F n 100000) : MetV l y_Odds_learn (Cond.code y_Odds_learn prog_7_method_7_code 2 none :: gw) ({ frames := 2, cells := 0, slots := 0, locals := 43 } : Room) (dC, dI) vwCl (kT cI cM cO) [Value.ref oo, Value.int (nI t)] [(oo, Sum.inr (7, [Value.int osg, Value.int (nI (ns F n)), Value.int ofc, Value.ref oca, Value.ref opa])), (oca, Sum.inl (cI, n, Sum.inl ocf)), (opa, Sum.inl (cI, opl, Sum.inl opf))] sz (fun (u : (Nat → Int32)) => tbI u n (lrn n t F)) (fun (u : (Nat → Int32)) => [(oo, Sum.inr (7, [Value.int osg, Value.int (nI (ns (lrn n t F) n)), Value.int ofc, Value.ref oca, Value.ref opa])), (oca, Sum.inl (cI, n, Sum.inl u)), (opa, Sum.inl (cI, opl, Sum.inl opf))]) 0 0 := by
  refine my_ofV (cc := prog_7_method_7_code) (n := 2) (ret := none) (by decide) rfl (Nat.le_of_ble_eq_true rfl) ?_
  intro p e s m args below meth c R Q A ls H locs hx hb hr hts hown hlocks hml hnm hR hQ hA hl hP hK hN hD hS
  have hg : ∀ w ∈ gw, w.before args s = true := fun w h => hts w (List.mem_cons_of_mem _ h)
  have hown : s.vm.findClass "RangeCoders$Odds" = some m.cls := hown
  have hl : lv_has ls 2 [(0, Value.ref oo), (1, Value.int (nI t))] := hl
  refine lv_aload_n hx hb d_Odds_learn_0 rfl (lv_at hl 0 rfl) ?_
  refine lv_iload_n hx hb d_Odds_learn_1 rfl (lv_at hl 1 rfl) ?_
  refine lv_bipush (v := 32) hx hb d_Odds_learn_2 (by decide) ?_
  refine my_cv (wr := []) (va_runV (As := [Value.int (nI t), Value.int 32]) (rest := []) ⟨hx, hb, hml, hown, hts⟩ (f_Odds_grow l dC dI cI cM cO H.size oo osg ofc oca opa n ocf opl opf (nI (ns F n)) t 32 (by first | assumption | omega) (by first | assumption | omega) (ht) (hfc)) (cwV 2 hts (my_gV k392 k393 k394 k14 k395) rfl rfl rfl (by decide +kernel) ⟨by rw [hR]; exact Nat.le_of_ble_eq_true rfl, by rw [hR]; exact Nat.le_of_ble_eq_true rfl⟩) (my_preV hK hN (hP.sub [0, 1, 2] rfl) (hD.sub [0, 1, 2] (by decide +kernel) rfl) 0 rfl rfl) rfl rfl hl.1 rfl (lv_room (Nat.le_of_ble_eq_true rfl)) d_Odds_learn_4 ⟨by rw [hR]; exact Nat.le_of_ble_eq_true rfl, by rw [hR]; exact Nat.le_of_ble_eq_true rfl⟩) hP hD hS hA [0, 1, 2] [] rfl rfl (by decide +kernel) (by decide +kernel) (fun u9 H locs hw_4 hP hD hS => ?_)
  obtain ⟨ocfq_4, rfl⟩ : ∃ z, z = u9 := ⟨_, rfl⟩
  have hc_4 : ocfq_4 = upd ocf t (ocf t + 32) := hw_4
  have hP : va_P (dC, dI) vwCl [(oo, Sum.inr (7, [Value.int osg, Value.int ((nI (ns F n)) + 32), Value.int ofc, Value.ref oca, Value.ref opa])), (oca, Sum.inl (cI, n, Sum.inl ocfq_4)), (opa, Sum.inl (cI, opl, Sum.inl opf))] H := hP
  have hD : va_D A [(oo, Sum.inr (7, [Value.int osg, Value.int ((nI (ns F n)) + 32), Value.int ofc, Value.ref oca, Value.ref opa])), (oca, Sum.inl (cI, n, Sum.inl ocfq_4)), (opa, Sum.inl (cI, opl, Sum.inl opf))] := hD
  have hU : tbI ocfq_4 n (upN F t (F t + 32)) := by rw [hc_4]; exact tb_up hf rfl (by rw [hf t ht]; exact nI_add (F t) 32)
  have hS9 := ns_up (F := F) (v := F t + 32) ht
  have hb9 : bd (upN F t (F t + 32)) n 1000000 := fun k hk => by
    have h1 := hB k hk
    by_cases e : k = t
    · subst e; rw [upN_s]; omega
    · rw [upN_n _ e]; omega
  have hs9 := ns_le64 hn hb9
  have hsu : ((nI (ns F n)) + 32 : Int32) = nI (ns (upN F t (F t + 32)) n) := by rw [show ns (upN F t (F t + 32)) n = ns F n + 32 by omega]; exact nI_add (ns F n) 32
  rw [hsu] at hP hD
  have hP : va_P (dC, dI) vwCl [(oo, Sum.inr (7, [Value.int osg, Value.int (nI (ns (upN F t (F t + 32)) n)), Value.int ofc, Value.ref oca, Value.ref opa])), (oca, Sum.inl (cI, n, Sum.inl ocfq_4)), (opa, Sum.inl (cI, opl, Sum.inl opf))] H := hP
  have hD : va_D A [(oo, Sum.inr (7, [Value.int osg, Value.int (nI (ns (upN F t (F t + 32)) n)), Value.int ofc, Value.ref oca, Value.ref opa])), (oca, Sum.inl (cI, n, Sum.inl ocfq_4)), (opa, Sum.inl (cI, opl, Sum.inl opf))] := hD
  refine lv_aload_n hx hb d_Odds_learn_7 rfl (lv_at hl 0 rfl) ?_
  refine va_get (D := (dC, dI)) (ci := 7) (v := .int (nI (ns (upN F t (F t + 32)) n))) (C := "RangeCoders$Odds") (T := T_Odds) (N := 5) hx hb hg in_Odds hown hK hP 0 rfl rfl 1 (by decide) (hg _ k305) (fun _ h9 => h9) rfl d_Odds_learn_8 ?_
  refine lv_sipush (v := 8192) hx hb d_Odds_learn_11 (by decide) ?_
  refine lv_icmp_le (tgt := 21) hx hb d_Odds_learn_14 (by decide) (fun c_1 => ?_) (fun c_1 => ?_)
  · have hE9 : lrn n t F = upN F t (F t + 32) := by unfold lrn; rw [if_pos ((nI_cmp (b := 8192) (by omega) (by decide)).mp c_1)]
    have hsu : (nI (ns (upN F t (F t + 32)) n) : Int32) = nI (ns (lrn n t F) n) := by rw [hE9]
    rw [hsu] at hP hD
    have hP : va_P (dC, dI) vwCl [(oo, Sum.inr (7, [Value.int osg, Value.int (nI (ns (lrn n t F) n)), Value.int ofc, Value.ref oca, Value.ref opa])), (oca, Sum.inl (cI, n, Sum.inl ocfq_4)), (opa, Sum.inl (cI, opl, Sum.inl opf))] H := hP
    have hD : va_D A [(oo, Sum.inr (7, [Value.int osg, Value.int (nI (ns (lrn n t F) n)), Value.int ofc, Value.ref oca, Value.ref opa])), (oca, Sum.inl (cI, n, Sum.inl ocfq_4)), (opa, Sum.inl (cI, opl, Sum.inl opf))] := hD
    exact my_vret hx hb hr hlocks hQ hK hS (Nat.le_refl _) (Nat.le_refl _) (ocfq_4) (by rw [hE9]; exact hU) (hP.sub [0, 1, 2] rfl) (hD.sub [0, 1, 2] (by decide +kernel) rfl) d_Odds_learn_21
  · have hgt : ¬ ns (upN F t (F t + 32)) n ≤ 8192 := fun q => absurd (nI_le (b := 8192) q (by decide)) c_1
    refine lv_aload_n hx hb d_Odds_learn_17 rfl (lv_at hl 0 rfl) ?_
    refine my_cv (wr := []) (va_runV (As := []) (rest := []) ⟨hx, hb, hml, hown, hts⟩ (f_Odds_halve l dC dI cI cM cO H.size oo osg ofc oca opa n ocfq_4 opl opf (upN F t (F t + 32)) (nI (ns (upN F t (F t + 32)) n)) (by first | assumption | omega) (by first | assumption | omega) (hU) (hb9)) (cwV 0 hts (my_gV k375 k377 ks1 k14 k378) rfl rfl rfl (by decide +kernel) ⟨by rw [hR]; exact Nat.le_of_ble_eq_true rfl, by rw [hR]; exact Nat.le_of_ble_eq_true rfl⟩) (my_preV hK hN (hP.sub [0, 1, 2] rfl) (hD.sub [0, 1, 2] (by decide +kernel) rfl) 0 rfl rfl) rfl rfl hl.1 rfl (lv_room (Nat.le_of_ble_eq_true rfl)) d_Odds_learn_18 ⟨by rw [hR]; exact Nat.le_of_ble_eq_true rfl, by rw [hR]; exact Nat.le_of_ble_eq_true rfl⟩) hP hD hS hA [0, 1, 2] [] rfl rfl (by decide +kernel) (by decide +kernel) (fun u9 H locs hw_18 hP hD hS => ?_)
    obtain ⟨ocfq_18, rfl⟩ : ∃ z, z = u9 := ⟨_, rfl⟩
    have hf_18 : tbI ocfq_18 n (hv (upN F t (F t + 32))) := hw_18
    have hP : va_P (dC, dI) vwCl [(oo, Sum.inr (7, [Value.int osg, Value.int (nI (ns (hv (upN F t (F t + 32))) n)), Value.int ofc, Value.ref oca, Value.ref opa])), (oca, Sum.inl (cI, n, Sum.inl ocfq_18)), (opa, Sum.inl (cI, opl, Sum.inl opf))] H := hP
    have hD : va_D A [(oo, Sum.inr (7, [Value.int osg, Value.int (nI (ns (hv (upN F t (F t + 32))) n)), Value.int ofc, Value.ref oca, Value.ref opa])), (oca, Sum.inl (cI, n, Sum.inl ocfq_18)), (opa, Sum.inl (cI, opl, Sum.inl opf))] := hD
    have hE9 : lrn n t F = hv (upN F t (F t + 32)) := by unfold lrn; rw [if_neg hgt]
    have hsu : (nI (ns (hv (upN F t (F t + 32))) n) : Int32) = nI (ns (lrn n t F) n) := by rw [hE9]
    rw [hsu] at hP hD
    have hP : va_P (dC, dI) vwCl [(oo, Sum.inr (7, [Value.int osg, Value.int (nI (ns (lrn n t F) n)), Value.int ofc, Value.ref oca, Value.ref opa])), (oca, Sum.inl (cI, n, Sum.inl ocfq_18)), (opa, Sum.inl (cI, opl, Sum.inl opf))] H := hP
    have hD : va_D A [(oo, Sum.inr (7, [Value.int osg, Value.int (nI (ns (lrn n t F) n)), Value.int ofc, Value.ref oca, Value.ref opa])), (oca, Sum.inl (cI, n, Sum.inl ocfq_18)), (opa, Sum.inl (cI, opl, Sum.inl opf))] := hD
    exact my_vret hx hb hr hlocks hQ hK hS (Nat.le_refl _) (Nat.le_refl _) (ocfq_18) (by rw [hE9]; exact hf_18) (hP.sub [0, 1, 2] rfl) (hD.sub [0, 1, 2] (by decide +kernel) rfl) d_Odds_learn_21

